set_option linter.all false
abbrev c_RG_spread : ByteArray := prog_9_method_4_code
abbrev y_RG_spread : MethodName := ⟨"LatticeKeys$Ring", "spread", "([IIIJ)V"⟩
abbrev w_RG_spread : List Cond := Cond.code y_RG_spread c_RG_spread 10 none :: WG
theorem dRG_spread_0 : decode c_RG_spread 0 = .ok (.iload_n 2, 1) := by decide +kernel
theorem dRG_spread_1 : decode c_RG_spread 1 = .ok (.istore 6, 2) := by decide +kernel
theorem dRG_spread_3 : decode c_RG_spread 3 = .ok (.iload 6, 2) := by decide +kernel
theorem dRG_spread_5 : decode c_RG_spread 5 = .ok (.iload_n 2, 1) := by decide +kernel
theorem dRG_spread_6 : decode c_RG_spread 6 = .ok (.iload_n 3, 1) := by decide +kernel
theorem dRG_spread_7 : decode c_RG_spread 7 = .ok (.iadd, 1) := by decide +kernel
theorem dRG_spread_8 : decode c_RG_spread 8 = .ok (.if_icmp .ge 94, 3) := by decide +kernel
theorem dRG_spread_11 : decode c_RG_spread 11 = .ok (.lload 4, 2) := by decide +kernel
theorem dRG_spread_13 : decode c_RG_spread 13 = .ok (.aload_n 1, 1) := by decide +kernel
theorem dRG_spread_14 : decode c_RG_spread 14 = .ok (.iload 6, 2) := by decide +kernel
theorem dRG_spread_16 : decode c_RG_spread 16 = .ok (.iload_n 3, 1) := by decide +kernel
theorem dRG_spread_17 : decode c_RG_spread 17 = .ok (.iadd, 1) := by decide +kernel
theorem dRG_spread_18 : decode c_RG_spread 18 = .ok (.iaload, 1) := by decide +kernel
theorem dRG_spread_19 : decode c_RG_spread 19 = .ok (.i2l, 1) := by decide +kernel
theorem dRG_spread_20 : decode c_RG_spread 20 = .ok (.lmul, 1) := by decide +kernel
theorem dRG_spread_21 : decode c_RG_spread 21 = .ok (.aload_n 0, 1) := by decide +kernel
theorem dRG_spread_22 : decode c_RG_spread 22 = .ok (.getfield 7, 3) := by decide +kernel
theorem dRG_spread_25 : decode c_RG_spread 25 = .ok (.i2l, 1) := by decide +kernel
theorem dRG_spread_26 : decode c_RG_spread 26 = .ok (.lrem, 1) := by decide +kernel
theorem dRG_spread_27 : decode c_RG_spread 27 = .ok (.l2i, 1) := by decide +kernel
theorem dRG_spread_28 : decode c_RG_spread 28 = .ok (.istore 7, 2) := by decide +kernel
theorem dRG_spread_30 : decode c_RG_spread 30 = .ok (.aload_n 1, 1) := by decide +kernel
theorem dRG_spread_31 : decode c_RG_spread 31 = .ok (.iload 6, 2) := by decide +kernel
theorem dRG_spread_33 : decode c_RG_spread 33 = .ok (.iaload, 1) := by decide +kernel
theorem dRG_spread_34 : decode c_RG_spread 34 = .ok (.iload 7, 2) := by decide +kernel
theorem dRG_spread_36 : decode c_RG_spread 36 = .ok (.iadd, 1) := by decide +kernel
theorem dRG_spread_37 : decode c_RG_spread 37 = .ok (.istore 8, 2) := by decide +kernel
theorem dRG_spread_39 : decode c_RG_spread 39 = .ok (.aload_n 1, 1) := by decide +kernel
theorem dRG_spread_40 : decode c_RG_spread 40 = .ok (.iload 6, 2) := by decide +kernel
theorem dRG_spread_42 : decode c_RG_spread 42 = .ok (.iaload, 1) := by decide +kernel
theorem dRG_spread_43 : decode c_RG_spread 43 = .ok (.iload 7, 2) := by decide +kernel
theorem dRG_spread_45 : decode c_RG_spread 45 = .ok (.isub, 1) := by decide +kernel
theorem dRG_spread_46 : decode c_RG_spread 46 = .ok (.istore 9, 2) := by decide +kernel
theorem dRG_spread_48 : decode c_RG_spread 48 = .ok (.aload_n 1, 1) := by decide +kernel
theorem dRG_spread_49 : decode c_RG_spread 49 = .ok (.iload 6, 2) := by decide +kernel
theorem dRG_spread_51 : decode c_RG_spread 51 = .ok (.iload 8, 2) := by decide +kernel
theorem dRG_spread_53 : decode c_RG_spread 53 = .ok (.aload_n 0, 1) := by decide +kernel
theorem dRG_spread_54 : decode c_RG_spread 54 = .ok (.getfield 7, 3) := by decide +kernel
theorem dRG_spread_57 : decode c_RG_spread 57 = .ok (.if_icmp .lt 13, 3) := by decide +kernel
theorem dRG_spread_60 : decode c_RG_spread 60 = .ok (.iload 8, 2) := by decide +kernel
theorem dRG_spread_62 : decode c_RG_spread 62 = .ok (.aload_n 0, 1) := by decide +kernel
theorem dRG_spread_63 : decode c_RG_spread 63 = .ok (.getfield 7, 3) := by decide +kernel
theorem dRG_spread_66 : decode c_RG_spread 66 = .ok (.isub, 1) := by decide +kernel
theorem dRG_spread_67 : decode c_RG_spread 67 = .ok (.goto 5, 3) := by decide +kernel
theorem dRG_spread_70 : decode c_RG_spread 70 = .ok (.iload 8, 2) := by decide +kernel
theorem dRG_spread_72 : decode c_RG_spread 72 = .ok (.iastore, 1) := by decide +kernel
theorem dRG_spread_73 : decode c_RG_spread 73 = .ok (.aload_n 1, 1) := by decide +kernel
theorem dRG_spread_74 : decode c_RG_spread 74 = .ok (.iload 6, 2) := by decide +kernel
theorem dRG_spread_76 : decode c_RG_spread 76 = .ok (.iload_n 3, 1) := by decide +kernel
theorem dRG_spread_77 : decode c_RG_spread 77 = .ok (.iadd, 1) := by decide +kernel
theorem dRG_spread_78 : decode c_RG_spread 78 = .ok (.iload 9, 2) := by decide +kernel
theorem dRG_spread_80 : decode c_RG_spread 80 = .ok (.ifCond .ge 13, 3) := by decide +kernel
theorem dRG_spread_83 : decode c_RG_spread 83 = .ok (.iload 9, 2) := by decide +kernel
theorem dRG_spread_85 : decode c_RG_spread 85 = .ok (.aload_n 0, 1) := by decide +kernel
theorem dRG_spread_86 : decode c_RG_spread 86 = .ok (.getfield 7, 3) := by decide +kernel
theorem dRG_spread_89 : decode c_RG_spread 89 = .ok (.iadd, 1) := by decide +kernel
theorem dRG_spread_90 : decode c_RG_spread 90 = .ok (.goto 5, 3) := by decide +kernel
theorem dRG_spread_93 : decode c_RG_spread 93 = .ok (.iload 9, 2) := by decide +kernel
theorem dRG_spread_95 : decode c_RG_spread 95 = .ok (.iastore, 1) := by decide +kernel
theorem dRG_spread_96 : decode c_RG_spread 96 = .ok (.iinc 6 1, 3) := by decide +kernel
theorem dRG_spread_99 : decode c_RG_spread 99 = .ok (.goto (-96), 3) := by decide +kernel
theorem dRG_spread_102 : decode c_RG_spread 102 = .ok (.return_, 1) := by decide +kernel
abbrev c_RG_gather : ByteArray := prog_9_method_6_code
abbrev y_RG_gather : MethodName := ⟨"LatticeKeys$Ring", "gather", "([IIIJ)V"⟩
abbrev w_RG_gather : List Cond := Cond.code y_RG_gather c_RG_gather 9 none :: WG
theorem dRG_gather_0 : decode c_RG_gather 0 = .ok (.iload_n 2, 1) := by decide +kernel
theorem dRG_gather_1 : decode c_RG_gather 1 = .ok (.istore 6, 2) := by decide +kernel
theorem dRG_gather_3 : decode c_RG_gather 3 = .ok (.iload 6, 2) := by decide +kernel
theorem dRG_gather_5 : decode c_RG_gather 5 = .ok (.iload_n 2, 1) := by decide +kernel
theorem dRG_gather_6 : decode c_RG_gather 6 = .ok (.iload_n 3, 1) := by decide +kernel
theorem dRG_gather_7 : decode c_RG_gather 7 = .ok (.iadd, 1) := by decide +kernel
theorem dRG_gather_8 : decode c_RG_gather 8 = .ok (.if_icmp .ge 84, 3) := by decide +kernel
theorem dRG_gather_11 : decode c_RG_gather 11 = .ok (.aload_n 1, 1) := by decide +kernel
theorem dRG_gather_12 : decode c_RG_gather 12 = .ok (.iload 6, 2) := by decide +kernel
theorem dRG_gather_14 : decode c_RG_gather 14 = .ok (.iaload, 1) := by decide +kernel
theorem dRG_gather_15 : decode c_RG_gather 15 = .ok (.aload_n 1, 1) := by decide +kernel
theorem dRG_gather_16 : decode c_RG_gather 16 = .ok (.iload 6, 2) := by decide +kernel
theorem dRG_gather_18 : decode c_RG_gather 18 = .ok (.iload_n 3, 1) := by decide +kernel
theorem dRG_gather_19 : decode c_RG_gather 19 = .ok (.iadd, 1) := by decide +kernel
theorem dRG_gather_20 : decode c_RG_gather 20 = .ok (.iaload, 1) := by decide +kernel
theorem dRG_gather_21 : decode c_RG_gather 21 = .ok (.iadd, 1) := by decide +kernel
theorem dRG_gather_22 : decode c_RG_gather 22 = .ok (.istore 7, 2) := by decide +kernel
theorem dRG_gather_24 : decode c_RG_gather 24 = .ok (.aload_n 1, 1) := by decide +kernel
theorem dRG_gather_25 : decode c_RG_gather 25 = .ok (.iload 6, 2) := by decide +kernel
theorem dRG_gather_27 : decode c_RG_gather 27 = .ok (.iload_n 3, 1) := by decide +kernel
theorem dRG_gather_28 : decode c_RG_gather 28 = .ok (.iadd, 1) := by decide +kernel
theorem dRG_gather_29 : decode c_RG_gather 29 = .ok (.iaload, 1) := by decide +kernel
theorem dRG_gather_30 : decode c_RG_gather 30 = .ok (.aload_n 1, 1) := by decide +kernel
theorem dRG_gather_31 : decode c_RG_gather 31 = .ok (.iload 6, 2) := by decide +kernel
theorem dRG_gather_33 : decode c_RG_gather 33 = .ok (.iaload, 1) := by decide +kernel
theorem dRG_gather_34 : decode c_RG_gather 34 = .ok (.isub, 1) := by decide +kernel
theorem dRG_gather_35 : decode c_RG_gather 35 = .ok (.aload_n 0, 1) := by decide +kernel
theorem dRG_gather_36 : decode c_RG_gather 36 = .ok (.getfield 7, 3) := by decide +kernel
theorem dRG_gather_39 : decode c_RG_gather 39 = .ok (.iadd, 1) := by decide +kernel
theorem dRG_gather_40 : decode c_RG_gather 40 = .ok (.istore 8, 2) := by decide +kernel
theorem dRG_gather_42 : decode c_RG_gather 42 = .ok (.aload_n 1, 1) := by decide +kernel
theorem dRG_gather_43 : decode c_RG_gather 43 = .ok (.iload 6, 2) := by decide +kernel
theorem dRG_gather_45 : decode c_RG_gather 45 = .ok (.iload 7, 2) := by decide +kernel
theorem dRG_gather_47 : decode c_RG_gather 47 = .ok (.aload_n 0, 1) := by decide +kernel
theorem dRG_gather_48 : decode c_RG_gather 48 = .ok (.getfield 7, 3) := by decide +kernel
theorem dRG_gather_51 : decode c_RG_gather 51 = .ok (.if_icmp .lt 13, 3) := by decide +kernel
theorem dRG_gather_54 : decode c_RG_gather 54 = .ok (.iload 7, 2) := by decide +kernel
theorem dRG_gather_56 : decode c_RG_gather 56 = .ok (.aload_n 0, 1) := by decide +kernel
theorem dRG_gather_57 : decode c_RG_gather 57 = .ok (.getfield 7, 3) := by decide +kernel
theorem dRG_gather_60 : decode c_RG_gather 60 = .ok (.isub, 1) := by decide +kernel
theorem dRG_gather_61 : decode c_RG_gather 61 = .ok (.goto 5, 3) := by decide +kernel
theorem dRG_gather_64 : decode c_RG_gather 64 = .ok (.iload 7, 2) := by decide +kernel
theorem dRG_gather_66 : decode c_RG_gather 66 = .ok (.iastore, 1) := by decide +kernel
theorem dRG_gather_67 : decode c_RG_gather 67 = .ok (.aload_n 1, 1) := by decide +kernel
theorem dRG_gather_68 : decode c_RG_gather 68 = .ok (.iload 6, 2) := by decide +kernel
theorem dRG_gather_70 : decode c_RG_gather 70 = .ok (.iload_n 3, 1) := by decide +kernel
theorem dRG_gather_71 : decode c_RG_gather 71 = .ok (.iadd, 1) := by decide +kernel
theorem dRG_gather_72 : decode c_RG_gather 72 = .ok (.lload 4, 2) := by decide +kernel
theorem dRG_gather_74 : decode c_RG_gather 74 = .ok (.iload 8, 2) := by decide +kernel
theorem dRG_gather_76 : decode c_RG_gather 76 = .ok (.i2l, 1) := by decide +kernel
theorem dRG_gather_77 : decode c_RG_gather 77 = .ok (.lmul, 1) := by decide +kernel
theorem dRG_gather_78 : decode c_RG_gather 78 = .ok (.aload_n 0, 1) := by decide +kernel
theorem dRG_gather_79 : decode c_RG_gather 79 = .ok (.getfield 7, 3) := by decide +kernel
theorem dRG_gather_82 : decode c_RG_gather 82 = .ok (.i2l, 1) := by decide +kernel
theorem dRG_gather_83 : decode c_RG_gather 83 = .ok (.lrem, 1) := by decide +kernel
theorem dRG_gather_84 : decode c_RG_gather 84 = .ok (.l2i, 1) := by decide +kernel
theorem dRG_gather_85 : decode c_RG_gather 85 = .ok (.iastore, 1) := by decide +kernel
theorem dRG_gather_86 : decode c_RG_gather 86 = .ok (.iinc 6 1, 3) := by decide +kernel
theorem dRG_gather_89 : decode c_RG_gather 89 = .ok (.goto (-86), 3) := by decide +kernel
theorem dRG_gather_92 : decode c_RG_gather 92 = .ok (.return_, 1) := by decide +kernel
abbrev c_RG_transform : ByteArray := prog_9_method_3_code
abbrev y_RG_transform : MethodName := ⟨"LatticeKeys$Ring", "transform", "([I)V"⟩
abbrev w_RG_transform : List Cond := Cond.code y_RG_transform c_RG_transform 6 none :: WG
theorem dRG_transform_0 : decode c_RG_transform 0 = .ok (.iconst 0, 1) := by decide +kernel
theorem dRG_transform_1 : decode c_RG_transform 1 = .ok (.istore_n 2, 1) := by decide +kernel
theorem dRG_transform_2 : decode c_RG_transform 2 = .ok (.iload_n 2, 1) := by decide +kernel
theorem dRG_transform_3 : decode c_RG_transform 3 = .ok (.aload_n 0, 1) := by decide +kernel
theorem dRG_transform_4 : decode c_RG_transform 4 = .ok (.getfield 13, 3) := by decide +kernel
theorem dRG_transform_7 : decode c_RG_transform 7 = .ok (.if_icmp .ge 59, 3) := by decide +kernel
theorem dRG_transform_10 : decode c_RG_transform 10 = .ok (.iconst 1, 1) := by decide +kernel
theorem dRG_transform_11 : decode c_RG_transform 11 = .ok (.iload_n 2, 1) := by decide +kernel
theorem dRG_transform_12 : decode c_RG_transform 12 = .ok (.ishl, 1) := by decide +kernel
theorem dRG_transform_13 : decode c_RG_transform 13 = .ok (.istore_n 3, 1) := by decide +kernel
theorem dRG_transform_14 : decode c_RG_transform 14 = .ok (.sipush 128, 3) := by decide +kernel
theorem dRG_transform_17 : decode c_RG_transform 17 = .ok (.iload_n 2, 1) := by decide +kernel
theorem dRG_transform_18 : decode c_RG_transform 18 = .ok (.ishr, 1) := by decide +kernel
theorem dRG_transform_19 : decode c_RG_transform 19 = .ok (.istore 4, 2) := by decide +kernel
theorem dRG_transform_21 : decode c_RG_transform 21 = .ok (.iconst 0, 1) := by decide +kernel
theorem dRG_transform_22 : decode c_RG_transform 22 = .ok (.istore 5, 2) := by decide +kernel
theorem dRG_transform_24 : decode c_RG_transform 24 = .ok (.iload 5, 2) := by decide +kernel
theorem dRG_transform_26 : decode c_RG_transform 26 = .ok (.iload_n 3, 1) := by decide +kernel
theorem dRG_transform_27 : decode c_RG_transform 27 = .ok (.if_icmp .ge 33, 3) := by decide +kernel
theorem dRG_transform_30 : decode c_RG_transform 30 = .ok (.aload_n 0, 1) := by decide +kernel
theorem dRG_transform_31 : decode c_RG_transform 31 = .ok (.aload_n 1, 1) := by decide +kernel
theorem dRG_transform_32 : decode c_RG_transform 32 = .ok (.iconst 2, 1) := by decide +kernel
theorem dRG_transform_33 : decode c_RG_transform 33 = .ok (.iload 4, 2) := by decide +kernel
theorem dRG_transform_35 : decode c_RG_transform 35 = .ok (.imul, 1) := by decide +kernel
theorem dRG_transform_36 : decode c_RG_transform 36 = .ok (.iload 5, 2) := by decide +kernel
theorem dRG_transform_38 : decode c_RG_transform 38 = .ok (.imul, 1) := by decide +kernel
theorem dRG_transform_39 : decode c_RG_transform 39 = .ok (.iload 4, 2) := by decide +kernel
theorem dRG_transform_41 : decode c_RG_transform 41 = .ok (.aload_n 0, 1) := by decide +kernel
theorem dRG_transform_42 : decode c_RG_transform 42 = .ok (.getfield 19, 3) := by decide +kernel
theorem dRG_transform_45 : decode c_RG_transform 45 = .ok (.iload_n 3, 1) := by decide +kernel
theorem dRG_transform_46 : decode c_RG_transform 46 = .ok (.iload 5, 2) := by decide +kernel
theorem dRG_transform_48 : decode c_RG_transform 48 = .ok (.iadd, 1) := by decide +kernel
theorem dRG_transform_49 : decode c_RG_transform 49 = .ok (.iaload, 1) := by decide +kernel
theorem dRG_transform_50 : decode c_RG_transform 50 = .ok (.i2l, 1) := by decide +kernel
theorem dRG_transform_51 : decode c_RG_transform 51 = .ok (.invokevirtual 27, 3) := by decide +kernel
theorem dRG_transform_54 : decode c_RG_transform 54 = .ok (.iinc 5 1, 3) := by decide +kernel
theorem dRG_transform_57 : decode c_RG_transform 57 = .ok (.goto (-33), 3) := by decide +kernel
theorem dRG_transform_60 : decode c_RG_transform 60 = .ok (.iinc 2 1, 3) := by decide +kernel
theorem dRG_transform_63 : decode c_RG_transform 63 = .ok (.goto (-61), 3) := by decide +kernel
theorem dRG_transform_66 : decode c_RG_transform 66 = .ok (.return_, 1) := by decide +kernel
abbrev c_RG_restore : ByteArray := prog_9_method_5_code
abbrev y_RG_restore : MethodName := ⟨"LatticeKeys$Ring", "restore", "([I)V"⟩
abbrev w_RG_restore : List Cond := Cond.code y_RG_restore c_RG_restore 6 none :: WG
theorem dRG_restore_0 : decode c_RG_restore 0 = .ok (.aload_n 0, 1) := by decide +kernel
theorem dRG_restore_1 : decode c_RG_restore 1 = .ok (.getfield 13, 3) := by decide +kernel
theorem dRG_restore_4 : decode c_RG_restore 4 = .ok (.iconst 1, 1) := by decide +kernel
theorem dRG_restore_5 : decode c_RG_restore 5 = .ok (.isub, 1) := by decide +kernel
theorem dRG_restore_6 : decode c_RG_restore 6 = .ok (.istore_n 2, 1) := by decide +kernel
theorem dRG_restore_7 : decode c_RG_restore 7 = .ok (.iload_n 2, 1) := by decide +kernel
theorem dRG_restore_8 : decode c_RG_restore 8 = .ok (.ifCond .lt 63, 3) := by decide +kernel
theorem dRG_restore_11 : decode c_RG_restore 11 = .ok (.iconst 1, 1) := by decide +kernel
theorem dRG_restore_12 : decode c_RG_restore 12 = .ok (.iload_n 2, 1) := by decide +kernel
theorem dRG_restore_13 : decode c_RG_restore 13 = .ok (.ishl, 1) := by decide +kernel
theorem dRG_restore_14 : decode c_RG_restore 14 = .ok (.istore_n 3, 1) := by decide +kernel
theorem dRG_restore_15 : decode c_RG_restore 15 = .ok (.sipush 128, 3) := by decide +kernel
theorem dRG_restore_18 : decode c_RG_restore 18 = .ok (.iload_n 2, 1) := by decide +kernel
theorem dRG_restore_19 : decode c_RG_restore 19 = .ok (.ishr, 1) := by decide +kernel
theorem dRG_restore_20 : decode c_RG_restore 20 = .ok (.istore 4, 2) := by decide +kernel
theorem dRG_restore_22 : decode c_RG_restore 22 = .ok (.iconst 0, 1) := by decide +kernel
theorem dRG_restore_23 : decode c_RG_restore 23 = .ok (.istore 5, 2) := by decide +kernel
theorem dRG_restore_25 : decode c_RG_restore 25 = .ok (.iload 5, 2) := by decide +kernel
theorem dRG_restore_27 : decode c_RG_restore 27 = .ok (.iload_n 3, 1) := by decide +kernel
theorem dRG_restore_28 : decode c_RG_restore 28 = .ok (.if_icmp .ge 37, 3) := by decide +kernel
theorem dRG_restore_31 : decode c_RG_restore 31 = .ok (.aload_n 0, 1) := by decide +kernel
theorem dRG_restore_32 : decode c_RG_restore 32 = .ok (.aload_n 1, 1) := by decide +kernel
theorem dRG_restore_33 : decode c_RG_restore 33 = .ok (.iconst 2, 1) := by decide +kernel
theorem dRG_restore_34 : decode c_RG_restore 34 = .ok (.iload 4, 2) := by decide +kernel
theorem dRG_restore_36 : decode c_RG_restore 36 = .ok (.imul, 1) := by decide +kernel
theorem dRG_restore_37 : decode c_RG_restore 37 = .ok (.iload 5, 2) := by decide +kernel
theorem dRG_restore_39 : decode c_RG_restore 39 = .ok (.imul, 1) := by decide +kernel
theorem dRG_restore_40 : decode c_RG_restore 40 = .ok (.iload 4, 2) := by decide +kernel
theorem dRG_restore_42 : decode c_RG_restore 42 = .ok (.aload_n 0, 1) := by decide +kernel
theorem dRG_restore_43 : decode c_RG_restore 43 = .ok (.getfield 19, 3) := by decide +kernel
theorem dRG_restore_46 : decode c_RG_restore 46 = .ok (.iconst 2, 1) := by decide +kernel
theorem dRG_restore_47 : decode c_RG_restore 47 = .ok (.iload_n 3, 1) := by decide +kernel
theorem dRG_restore_48 : decode c_RG_restore 48 = .ok (.imul, 1) := by decide +kernel
theorem dRG_restore_49 : decode c_RG_restore 49 = .ok (.iconst 1, 1) := by decide +kernel
theorem dRG_restore_50 : decode c_RG_restore 50 = .ok (.isub, 1) := by decide +kernel
theorem dRG_restore_51 : decode c_RG_restore 51 = .ok (.iload 5, 2) := by decide +kernel
theorem dRG_restore_53 : decode c_RG_restore 53 = .ok (.isub, 1) := by decide +kernel
theorem dRG_restore_54 : decode c_RG_restore 54 = .ok (.iaload, 1) := by decide +kernel
theorem dRG_restore_55 : decode c_RG_restore 55 = .ok (.i2l, 1) := by decide +kernel
theorem dRG_restore_56 : decode c_RG_restore 56 = .ok (.invokevirtual 31, 3) := by decide +kernel
theorem dRG_restore_59 : decode c_RG_restore 59 = .ok (.iinc 5 1, 3) := by decide +kernel
theorem dRG_restore_62 : decode c_RG_restore 62 = .ok (.goto (-37), 3) := by decide +kernel
theorem dRG_restore_65 : decode c_RG_restore 65 = .ok (.iinc 2 (-1), 3) := by decide +kernel
theorem dRG_restore_68 : decode c_RG_restore 68 = .ok (.goto (-61), 3) := by decide +kernel
theorem dRG_restore_71 : decode c_RG_restore 71 = .ok (.iconst 0, 1) := by decide +kernel
theorem dRG_restore_72 : decode c_RG_restore 72 = .ok (.istore_n 2, 1) := by decide +kernel
theorem dRG_restore_73 : decode c_RG_restore 73 = .ok (.iload_n 2, 1) := by decide +kernel
theorem dRG_restore_74 : decode c_RG_restore 74 = .ok (.sipush 256, 3) := by decide +kernel
theorem dRG_restore_77 : decode c_RG_restore 77 = .ok (.if_icmp .ge 29, 3) := by decide +kernel
theorem dRG_restore_80 : decode c_RG_restore 80 = .ok (.aload_n 1, 1) := by decide +kernel
theorem dRG_restore_81 : decode c_RG_restore 81 = .ok (.iload_n 2, 1) := by decide +kernel
theorem dRG_restore_82 : decode c_RG_restore 82 = .ok (.aload_n 1, 1) := by decide +kernel
theorem dRG_restore_83 : decode c_RG_restore 83 = .ok (.iload_n 2, 1) := by decide +kernel
theorem dRG_restore_84 : decode c_RG_restore 84 = .ok (.iaload, 1) := by decide +kernel
theorem dRG_restore_85 : decode c_RG_restore 85 = .ok (.i2l, 1) := by decide +kernel
theorem dRG_restore_86 : decode c_RG_restore 86 = .ok (.aload_n 0, 1) := by decide +kernel
theorem dRG_restore_87 : decode c_RG_restore 87 = .ok (.getfield 16, 3) := by decide +kernel
theorem dRG_restore_90 : decode c_RG_restore 90 = .ok (.i2l, 1) := by decide +kernel
theorem dRG_restore_91 : decode c_RG_restore 91 = .ok (.lmul, 1) := by decide +kernel
theorem dRG_restore_92 : decode c_RG_restore 92 = .ok (.aload_n 0, 1) := by decide +kernel
theorem dRG_restore_93 : decode c_RG_restore 93 = .ok (.getfield 7, 3) := by decide +kernel
theorem dRG_restore_96 : decode c_RG_restore 96 = .ok (.i2l, 1) := by decide +kernel
theorem dRG_restore_97 : decode c_RG_restore 97 = .ok (.lrem, 1) := by decide +kernel
theorem dRG_restore_98 : decode c_RG_restore 98 = .ok (.l2i, 1) := by decide +kernel
theorem dRG_restore_99 : decode c_RG_restore 99 = .ok (.iastore, 1) := by decide +kernel
theorem dRG_restore_100 : decode c_RG_restore 100 = .ok (.iinc 2 1, 3) := by decide +kernel
theorem dRG_restore_103 : decode c_RG_restore 103 = .ok (.goto (-30), 3) := by decide +kernel
theorem dRG_restore_106 : decode c_RG_restore 106 = .ok (.return_, 1) := by decide +kernel
def M_RG_spread_7 (pf : Nat) (k : Nat) : Prop := k = pf ∨ (0 : Nat) = 1
noncomputable def F_RG_spread_7_L0 (pf : Nat) (hf : Nat) (rt : Int64) : Nat → Nat → Sto → Sto
  | 0, i21, s21 => s21
  | n21 + 1, i21, s21 => bnd (((rt * ((s21.1 pf (i21 + hf)).toInt64)) - (rt * ((s21.1 pf (i21 + hf)).toInt64)) / ((nI 3329).toInt64) * ((nI 3329).toInt64)).toInt32) fun z21 => bnd (((s21.1 pf i21) + z21)) fun z22 => bnd (((s21.1 pf i21) - z21)) fun z23 => if z22 < (nI 3329) then bnd (sI s21 pf i21 z22) fun s22 => if 0 ≤ z23 then bnd (sI s22 pf (i21 + hf) z23) fun s23 => F_RG_spread_7_L0 pf hf rt n21 (i21 + 1) s23 else bnd (sI s22 pf (i21 + hf) (z23 + (nI 3329))) fun s24 => F_RG_spread_7_L0 pf hf rt n21 (i21 + 1) s24 else bnd (sI s21 pf i21 (z22 - (nI 3329))) fun s25 => if 0 ≤ z23 then bnd (sI s25 pf (i21 + hf) z23) fun s26 => F_RG_spread_7_L0 pf hf rt n21 (i21 + 1) s26 else bnd (sI s25 pf (i21 + hf) (z23 + (nI 3329))) fun s27 => F_RG_spread_7_L0 pf hf rt n21 (i21 + 1) s27
noncomputable def F_RG_spread_7 (pf : Nat) (st : Nat) (hf : Nat) (rt : Int64) (s : Sto) : Sto := F_RG_spread_7_L0 pf hf rt ((st + hf) - st) st s
set_option maxHeartbeats 400000 in
set_option maxRecDepth 100000 in
theorem N_RG_spread_7 (l : Launch) (g : Gd) (sz : Nat) (T : TyN) (s : Sto) (pl : va_W) (hO : okn g T s pl) (hU : inj T) (h0 f : Nat) (pf : Nat) (st : Nat) (hf : Nat) (rt : Int64) (k_h0 : T h0 = some 20) (k_f : T f = some pf) (n_f : nsp pf = (0, 256, [])) (h1 : st + 2 * hf ≤ 256)  : Met l y_RG_spread w_RG_spread ({ frames := 0, cells := 0, slots := 0, locals := 0 } : Room) (va_Pc [.ref h0, .ref f, .int (nI st), .int (nI hf), .long rt] (pr (en g) g.1 vcl sz ([] ++ pl))) (va_Qv (fun (u : (Sto) × va_W) => (u.1 = F_RG_spread_7 pf st hf rt s ∧ frm (M_RG_spread_7 pf) s u.1 ∧ True) ∧ okn g T u.1 u.2) (po g.1 vcl (va_A ([] ++ pl) sz) (fun (u : (Sto) × va_W) => [] ++ u.2)) (va_A ([] ++ pl) sz)) 0 0 (va_A ([] ++ pl) sz) := by
  refine mc_entry (cc := c_RG_spread) (maxL := 10) (ret := none) (by decide) rfl (Nat.le_of_ble_eq_true rfl) ?_
  intro p e s0 m args below meth c ls F hr hlk hnm hsz hP hD hE hA hl
  obtain ⟨hx, hb, hml, hown, hts⟩ := id F
  have hK := hE.1
  generalize va_A ([] ++ pl) sz = A at hD hE hA ⊢
  have hS : va_S A s0.heap s0.heap [] := va_S.rf
  have hl : lv_has ls 10 [(0, .ref h0), (1, .ref f), (2, .int (nI st)), (3, .int (nI hf)), (4, .long rt)] := hl
  have hR : F_RG_spread_7 pf st hf rt s = F_RG_spread_7 pf st hf rt s := rfl
  have hF : frm (M_RG_spread_7 pf) s s := frm_rf
  refine lv_iload_n hx hb dRG_spread_0 rfl (lv_at hl 2 rfl) ?_
  refine lv_istore (lv' := [(6, .int (nI st)), (0, .ref h0), (1, .ref f), (2, .int (nI st)), (3, .int (nI hf)), (4, .long rt)]) hx hb dRG_spread_1 hl (by decide) rfl (fun ls hl => ?_)
  have lp21 : ∀ (n21 : Nat) (i21 : Nat) (s21 : Sto) (pl : va_W) (ls : Array Slot) (H : Heap) (locs : List Loc), n21 + i21 = st + hf → (st ≤ i21) → frm (M_RG_spread_7 pf) s s21 → F_RG_spread_7 pf st hf rt s = F_RG_spread_7_L0 pf hf rt n21 i21 s21 → lv_has ls 10 [(6, .int (nI i21)), (0, .ref h0), (1, .ref f), (2, .int (nI st)), (3, .int (nI hf)), (4, .long rt)] → okn g T s21 pl → va_P g.1 vcl ([] ++ pl) H → va_D A ([] ++ pl) → va_S A s0.heap H locs → W p l e ({ frames := 0, cells := 0, slots := 0, locals := 0 } : Room) s0 m args below meth c H locs 0 0 (MQ below (va_Qv (fun (u : (Sto) × va_W) => (u.1 = F_RG_spread_7 pf st hf rt s ∧ frm (M_RG_spread_7 pf) s u.1 ∧ True) ∧ okn g T u.1 u.2) (po g.1 vcl A (fun (u : (Sto) × va_W) => [] ++ u.2)) A) args s0 0 0 A) (F0 m 3 ls []) := by
    intro n21
    induction n21 with
    | zero =>
      intro i21 s21 pl ls H locs hm21 hi21 hF hR hl hO hP hD hS
      refine lv_iload hx hb dRG_spread_3 (lv_at hl 0 rfl) ?_
      refine lv_iload_n hx hb dRG_spread_5 rfl (lv_at hl 3 rfl) ?_
      refine lv_iload_n hx hb dRG_spread_6 rfl (lv_at hl 4 rfl) ?_
      refine mi_iadd hx hb dRG_spread_7 ?_
      refine mi_ge (tgt := 102) hx hb dRG_spread_8 (by decide) (by omega) (by omega) (fun h21 => ?_) (fun h21 => absurd h21 (by omega))
      exact mp_vret hx hb hr hlk hP hD hS (s21, pl) ⟨⟨hR.symm, hF, trivial⟩, hO⟩ [] rfl rfl rfl (by omega) (by omega) dRG_spread_102
    | succ n21 ih21 =>
      intro i21 s21 pl ls H locs hm21 hi21 hF hR hl hO hP hD hS
      refine lv_iload hx hb dRG_spread_3 (lv_at hl 0 rfl) ?_
      refine lv_iload_n hx hb dRG_spread_5 rfl (lv_at hl 3 rfl) ?_
      refine lv_iload_n hx hb dRG_spread_6 rfl (lv_at hl 4 rfl) ?_
      refine mi_iadd hx hb dRG_spread_7 ?_
      refine mi_ge (tgt := 102) hx hb dRG_spread_8 (by decide) (by omega) (by omega) (fun h22 => absurd h22 (by omega)) (fun h22 => ?_)
      refine lv_lload hx hb dRG_spread_11 (lv_at hl 5 rfl) ?_
      refine lv_aload_n hx hb dRG_spread_13 rfl (lv_at hl 2 rfl) ?_
      refine lv_iload hx hb dRG_spread_14 (lv_at hl 0 rfl) ?_
      refine lv_iload_n hx hb dRG_spread_16 rfl (lv_at hl 4 rfl) ?_
      refine mi_iadd hx hb dRG_spread_17 ?_
      refine nw_iald hx hb hK hO k_f (k := pf) n_f hP (by omega) (by omega) dRG_spread_18 ?_
      refine lv_i2l hx hb dRG_spread_19 rfl ?_
      refine lv_lmul hx hb dRG_spread_20 ?_
      refine lv_aload_n hx hb dRG_spread_21 rfl (lv_at hl 1 rfl) ?_
      refine nw_get (C := "LatticeKeys$Ring") (TT := T_RG) (N := 4) hx hb hts (wg_ft i_RG) hown hK hO k_h0 (kn := 20) (ci := 4) (fl := [(1, 3329), (1, 7), (1, 3303), (3, 21)]) rfl hP rfl 0 (by decide) (hts _ (wg_t kw_91)) (fun _ h9 => h9) (cd := (1, 3329)) rfl dRG_spread_22 (fun v21 hv21 => ?_)
      obtain rfl := (show v21 = .int (nI 3329) from hv21)
      refine lv_i2l hx hb dRG_spread_25 rfl ?_
      refine lv_lrem hx hb dRG_spread_26 (by decide) ?_
      refine lv_l2i hx hb dRG_spread_27 rfl ?_
      refine mi_eqv (fun z21 ez21 => ?_)
      replace hR := bnd_step hR ez21
      refine lv_istore (lv' := [(7, .int z21), (6, .int (nI i21)), (0, .ref h0), (1, .ref f), (2, .int (nI st)), (3, .int (nI hf)), (4, .long rt)]) hx hb dRG_spread_28 hl (by decide) rfl (fun ls hl => ?_)
      refine lv_aload_n hx hb dRG_spread_30 rfl (lv_at hl 3 rfl) ?_
      refine lv_iload hx hb dRG_spread_31 (lv_at hl 1 rfl) ?_
      refine nw_iald hx hb hK hO k_f (k := pf) n_f hP (by omega) (by omega) dRG_spread_33 ?_
      refine lv_iload hx hb dRG_spread_34 (lv_at hl 0 rfl) ?_
      refine lv_iadd hx hb dRG_spread_36 ?_
      refine mi_eqv (fun z22 ez22 => ?_)
      replace hR := bnd_step hR ez22
      refine lv_istore (lv' := [(8, .int z22), (7, .int z21), (6, .int (nI i21)), (0, .ref h0), (1, .ref f), (2, .int (nI st)), (3, .int (nI hf)), (4, .long rt)]) hx hb dRG_spread_37 hl (by decide) rfl (fun ls hl => ?_)
      refine lv_aload_n hx hb dRG_spread_39 rfl (lv_at hl 4 rfl) ?_
      refine lv_iload hx hb dRG_spread_40 (lv_at hl 2 rfl) ?_
      refine nw_iald hx hb hK hO k_f (k := pf) n_f hP (by omega) (by omega) dRG_spread_42 ?_
      refine lv_iload hx hb dRG_spread_43 (lv_at hl 1 rfl) ?_
      refine lv_isub hx hb dRG_spread_45 ?_
      refine mi_eqv (fun z23 ez23 => ?_)
      replace hR := bnd_step hR ez23
      refine lv_istore (lv' := [(9, .int z23), (8, .int z22), (7, .int z21), (6, .int (nI i21)), (0, .ref h0), (1, .ref f), (2, .int (nI st)), (3, .int (nI hf)), (4, .long rt)]) hx hb dRG_spread_46 hl (by decide) rfl (fun ls hl => ?_)
      refine lv_aload_n hx hb dRG_spread_48 rfl (lv_at hl 5 rfl) ?_
      refine lv_iload hx hb dRG_spread_49 (lv_at hl 3 rfl) ?_
      refine lv_iload hx hb dRG_spread_51 (lv_at hl 1 rfl) ?_
      refine lv_aload_n hx hb dRG_spread_53 rfl (lv_at hl 4 rfl) ?_
      refine nw_get (C := "LatticeKeys$Ring") (TT := T_RG) (N := 4) hx hb hts (wg_ft i_RG) hown hK hO k_h0 (kn := 20) (ci := 4) (fl := [(1, 3329), (1, 7), (1, 3303), (3, 21)]) rfl hP rfl 0 (by decide) (hts _ (wg_t kw_91)) (fun _ h9 => h9) (cd := (1, 3329)) rfl dRG_spread_54 (fun v22 hv22 => ?_)
      obtain rfl := (show v22 = .int (nI 3329) from hv22)
      refine lv_icmp_lt (tgt := 70) hx hb dRG_spread_57 (by decide) (fun h23 => ?_) (fun h23 => ?_)
      · replace hR := hR.trans (if_pos h23)
        refine lv_iload hx hb dRG_spread_70 (lv_at hl 1 rfl) ?_
        refine nw_iast hx hb hK hO hU k_f (k := pf) n_f hP hD hS (by omega) (by omega) dRG_spread_72 (fun s22 pl H locs es21 hO hP hD hS => ?_)
        replace hR := bnd_step hR es21
        have hF := frm_sI hF es21 (by unfold M_RG_spread_7; omega)
        refine lv_aload_n hx hb dRG_spread_73 rfl (lv_at hl 5 rfl) ?_
        refine lv_iload hx hb dRG_spread_74 (lv_at hl 3 rfl) ?_
        refine lv_iload_n hx hb dRG_spread_76 rfl (lv_at hl 7 rfl) ?_
        refine mi_iadd hx hb dRG_spread_77 ?_
        refine lv_iload hx hb dRG_spread_78 (lv_at hl 0 rfl) ?_
        refine lv_if_ge (tgt := 93) hx hb dRG_spread_80 (by decide) (fun h24 => ?_) (fun h24 => ?_)
        · replace hR := hR.trans (if_pos h24)
          refine lv_iload hx hb dRG_spread_93 (lv_at hl 0 rfl) ?_
          refine nw_iast hx hb hK hO hU k_f (k := pf) n_f hP hD hS (by omega) (by omega) dRG_spread_95 (fun s23 pl H locs es22 hO hP hD hS => ?_)
          replace hR := bnd_step hR es22
          have hF := frm_sI hF es22 (by unfold M_RG_spread_7; omega)
          refine mi_iinc (k := 3) (x := i21) (d := 1) (y := i21 + 1) (lv' := [(6, .int (nI (i21 + 1))), (9, .int z23), (8, .int z22), (7, .int z21), (0, .ref h0), (1, .ref f), (2, .int (nI st)), (3, .int (nI hf)), (4, .long rt)]) hx hb dRG_spread_96 hl rfl (by decide) rfl (by decide) rfl (fun ls hl => ?_)
          refine lv_goto (tgt := 3) hx hb dRG_spread_99 (by decide) ?_
          exact ih21 (i21 + 1) s23 pl ls H locs (by omega) (by omega) hF hR (lv_sub hl [0, 4, 5, 6, 7, 8] rfl) hO hP hD hS
        · replace hR := hR.trans (if_neg h24)
          refine lv_iload hx hb dRG_spread_83 (lv_at hl 0 rfl) ?_
          refine lv_aload_n hx hb dRG_spread_85 rfl (lv_at hl 4 rfl) ?_
          refine nw_get (C := "LatticeKeys$Ring") (TT := T_RG) (N := 4) hx hb hts (wg_ft i_RG) hown hK hO k_h0 (kn := 20) (ci := 4) (fl := [(1, 3329), (1, 7), (1, 3303), (3, 21)]) rfl hP rfl 0 (by decide) (hts _ (wg_t kw_91)) (fun _ h9 => h9) (cd := (1, 3329)) rfl dRG_spread_86 (fun v23 hv23 => ?_)
          obtain rfl := (show v23 = .int (nI 3329) from hv23)
          refine lv_iadd hx hb dRG_spread_89 ?_
          refine lv_goto (tgt := 95) hx hb dRG_spread_90 (by decide) ?_
          refine nw_iast hx hb hK hO hU k_f (k := pf) n_f hP hD hS (by omega) (by omega) dRG_spread_95 (fun s24 pl H locs es23 hO hP hD hS => ?_)
          replace hR := bnd_step hR es23
          have hF := frm_sI hF es23 (by unfold M_RG_spread_7; omega)
          refine mi_iinc (k := 3) (x := i21) (d := 1) (y := i21 + 1) (lv' := [(6, .int (nI (i21 + 1))), (9, .int z23), (8, .int z22), (7, .int z21), (0, .ref h0), (1, .ref f), (2, .int (nI st)), (3, .int (nI hf)), (4, .long rt)]) hx hb dRG_spread_96 hl rfl (by decide) rfl (by decide) rfl (fun ls hl => ?_)
          refine lv_goto (tgt := 3) hx hb dRG_spread_99 (by decide) ?_
          exact ih21 (i21 + 1) s24 pl ls H locs (by omega) (by omega) hF hR (lv_sub hl [0, 4, 5, 6, 7, 8] rfl) hO hP hD hS
      · replace hR := hR.trans (if_neg h23)
        refine lv_iload hx hb dRG_spread_60 (lv_at hl 1 rfl) ?_
        refine lv_aload_n hx hb dRG_spread_62 rfl (lv_at hl 4 rfl) ?_
        refine nw_get (C := "LatticeKeys$Ring") (TT := T_RG) (N := 4) hx hb hts (wg_ft i_RG) hown hK hO k_h0 (kn := 20) (ci := 4) (fl := [(1, 3329), (1, 7), (1, 3303), (3, 21)]) rfl hP rfl 0 (by decide) (hts _ (wg_t kw_91)) (fun _ h9 => h9) (cd := (1, 3329)) rfl dRG_spread_63 (fun v24 hv24 => ?_)
        obtain rfl := (show v24 = .int (nI 3329) from hv24)
        refine lv_isub hx hb dRG_spread_66 ?_
        refine lv_goto (tgt := 72) hx hb dRG_spread_67 (by decide) ?_
        refine nw_iast hx hb hK hO hU k_f (k := pf) n_f hP hD hS (by omega) (by omega) dRG_spread_72 (fun s25 pl H locs es24 hO hP hD hS => ?_)
        replace hR := bnd_step hR es24
        have hF := frm_sI hF es24 (by unfold M_RG_spread_7; omega)
        refine lv_aload_n hx hb dRG_spread_73 rfl (lv_at hl 5 rfl) ?_
        refine lv_iload hx hb dRG_spread_74 (lv_at hl 3 rfl) ?_
        refine lv_iload_n hx hb dRG_spread_76 rfl (lv_at hl 7 rfl) ?_
        refine mi_iadd hx hb dRG_spread_77 ?_
        refine lv_iload hx hb dRG_spread_78 (lv_at hl 0 rfl) ?_
        refine lv_if_ge (tgt := 93) hx hb dRG_spread_80 (by decide) (fun h25 => ?_) (fun h25 => ?_)
        · replace hR := hR.trans (if_pos h25)
          refine lv_iload hx hb dRG_spread_93 (lv_at hl 0 rfl) ?_
          refine nw_iast hx hb hK hO hU k_f (k := pf) n_f hP hD hS (by omega) (by omega) dRG_spread_95 (fun s26 pl H locs es25 hO hP hD hS => ?_)
          replace hR := bnd_step hR es25
          have hF := frm_sI hF es25 (by unfold M_RG_spread_7; omega)
          refine mi_iinc (k := 3) (x := i21) (d := 1) (y := i21 + 1) (lv' := [(6, .int (nI (i21 + 1))), (9, .int z23), (8, .int z22), (7, .int z21), (0, .ref h0), (1, .ref f), (2, .int (nI st)), (3, .int (nI hf)), (4, .long rt)]) hx hb dRG_spread_96 hl rfl (by decide) rfl (by decide) rfl (fun ls hl => ?_)
          refine lv_goto (tgt := 3) hx hb dRG_spread_99 (by decide) ?_
          exact ih21 (i21 + 1) s26 pl ls H locs (by omega) (by omega) hF hR (lv_sub hl [0, 4, 5, 6, 7, 8] rfl) hO hP hD hS
        · replace hR := hR.trans (if_neg h25)
          refine lv_iload hx hb dRG_spread_83 (lv_at hl 0 rfl) ?_
          refine lv_aload_n hx hb dRG_spread_85 rfl (lv_at hl 4 rfl) ?_
          refine nw_get (C := "LatticeKeys$Ring") (TT := T_RG) (N := 4) hx hb hts (wg_ft i_RG) hown hK hO k_h0 (kn := 20) (ci := 4) (fl := [(1, 3329), (1, 7), (1, 3303), (3, 21)]) rfl hP rfl 0 (by decide) (hts _ (wg_t kw_91)) (fun _ h9 => h9) (cd := (1, 3329)) rfl dRG_spread_86 (fun v25 hv25 => ?_)
          obtain rfl := (show v25 = .int (nI 3329) from hv25)
          refine lv_iadd hx hb dRG_spread_89 ?_
          refine lv_goto (tgt := 95) hx hb dRG_spread_90 (by decide) ?_
          refine nw_iast hx hb hK hO hU k_f (k := pf) n_f hP hD hS (by omega) (by omega) dRG_spread_95 (fun s27 pl H locs es26 hO hP hD hS => ?_)
          replace hR := bnd_step hR es26
          have hF := frm_sI hF es26 (by unfold M_RG_spread_7; omega)
          refine mi_iinc (k := 3) (x := i21) (d := 1) (y := i21 + 1) (lv' := [(6, .int (nI (i21 + 1))), (9, .int z23), (8, .int z22), (7, .int z21), (0, .ref h0), (1, .ref f), (2, .int (nI st)), (3, .int (nI hf)), (4, .long rt)]) hx hb dRG_spread_96 hl rfl (by decide) rfl (by decide) rfl (fun ls hl => ?_)
          refine lv_goto (tgt := 3) hx hb dRG_spread_99 (by decide) ?_
          exact ih21 (i21 + 1) s27 pl ls H locs (by omega) (by omega) hF hR (lv_sub hl [0, 4, 5, 6, 7, 8] rfl) hO hP hD hS
  exact lp21 ((st + hf) - st) st s pl ls _ _ (by omega) (by omega) hF hR (lv_sub hl [0, 1, 2, 3, 4, 5] rfl) hO hP hD hS
def M_RG_spread_8 (pf : Nat) (k : Nat) : Prop := k = pf ∨ (0 : Nat) = 1
noncomputable def F_RG_spread_8_L0 (pf : Nat) (hf : Nat) (rt : Int64) : Nat → Nat → Sto → Sto
  | 0, i21, s21 => s21
  | n21 + 1, i21, s21 => bnd (((rt * ((s21.1 pf (i21 + hf)).toInt64)) - (rt * ((s21.1 pf (i21 + hf)).toInt64)) / ((nI 8380417).toInt64) * ((nI 8380417).toInt64)).toInt32) fun z21 => bnd (((s21.1 pf i21) + z21)) fun z22 => bnd (((s21.1 pf i21) - z21)) fun z23 => if z22 < (nI 8380417) then bnd (sI s21 pf i21 z22) fun s22 => if 0 ≤ z23 then bnd (sI s22 pf (i21 + hf) z23) fun s23 => F_RG_spread_8_L0 pf hf rt n21 (i21 + 1) s23 else bnd (sI s22 pf (i21 + hf) (z23 + (nI 8380417))) fun s24 => F_RG_spread_8_L0 pf hf rt n21 (i21 + 1) s24 else bnd (sI s21 pf i21 (z22 - (nI 8380417))) fun s25 => if 0 ≤ z23 then bnd (sI s25 pf (i21 + hf) z23) fun s26 => F_RG_spread_8_L0 pf hf rt n21 (i21 + 1) s26 else bnd (sI s25 pf (i21 + hf) (z23 + (nI 8380417))) fun s27 => F_RG_spread_8_L0 pf hf rt n21 (i21 + 1) s27
noncomputable def F_RG_spread_8 (pf : Nat) (st : Nat) (hf : Nat) (rt : Int64) (s : Sto) : Sto := F_RG_spread_8_L0 pf hf rt ((st + hf) - st) st s
set_option maxHeartbeats 400000 in
set_option maxRecDepth 100000 in
theorem N_RG_spread_8 (l : Launch) (g : Gd) (sz : Nat) (T : TyN) (s : Sto) (pl : va_W) (hO : okn g T s pl) (hU : inj T) (h0 f : Nat) (pf : Nat) (st : Nat) (hf : Nat) (rt : Int64) (k_h0 : T h0 = some 22) (k_f : T f = some pf) (n_f : nsp pf = (0, 256, [])) (h1 : st + 2 * hf ≤ 256)  : Met l y_RG_spread w_RG_spread ({ frames := 0, cells := 0, slots := 0, locals := 0 } : Room) (va_Pc [.ref h0, .ref f, .int (nI st), .int (nI hf), .long rt] (pr (en g) g.1 vcl sz ([] ++ pl))) (va_Qv (fun (u : (Sto) × va_W) => (u.1 = F_RG_spread_8 pf st hf rt s ∧ frm (M_RG_spread_8 pf) s u.1 ∧ True) ∧ okn g T u.1 u.2) (po g.1 vcl (va_A ([] ++ pl) sz) (fun (u : (Sto) × va_W) => [] ++ u.2)) (va_A ([] ++ pl) sz)) 0 0 (va_A ([] ++ pl) sz) := by
  refine mc_entry (cc := c_RG_spread) (maxL := 10) (ret := none) (by decide) rfl (Nat.le_of_ble_eq_true rfl) ?_
  intro p e s0 m args below meth c ls F hr hlk hnm hsz hP hD hE hA hl
  obtain ⟨hx, hb, hml, hown, hts⟩ := id F
  have hK := hE.1
  generalize va_A ([] ++ pl) sz = A at hD hE hA ⊢
  have hS : va_S A s0.heap s0.heap [] := va_S.rf
  have hl : lv_has ls 10 [(0, .ref h0), (1, .ref f), (2, .int (nI st)), (3, .int (nI hf)), (4, .long rt)] := hl
  have hR : F_RG_spread_8 pf st hf rt s = F_RG_spread_8 pf st hf rt s := rfl
  have hF : frm (M_RG_spread_8 pf) s s := frm_rf
  refine lv_iload_n hx hb dRG_spread_0 rfl (lv_at hl 2 rfl) ?_
  refine lv_istore (lv' := [(6, .int (nI st)), (0, .ref h0), (1, .ref f), (2, .int (nI st)), (3, .int (nI hf)), (4, .long rt)]) hx hb dRG_spread_1 hl (by decide) rfl (fun ls hl => ?_)
  have lp21 : ∀ (n21 : Nat) (i21 : Nat) (s21 : Sto) (pl : va_W) (ls : Array Slot) (H : Heap) (locs : List Loc), n21 + i21 = st + hf → (st ≤ i21) → frm (M_RG_spread_8 pf) s s21 → F_RG_spread_8 pf st hf rt s = F_RG_spread_8_L0 pf hf rt n21 i21 s21 → lv_has ls 10 [(6, .int (nI i21)), (0, .ref h0), (1, .ref f), (2, .int (nI st)), (3, .int (nI hf)), (4, .long rt)] → okn g T s21 pl → va_P g.1 vcl ([] ++ pl) H → va_D A ([] ++ pl) → va_S A s0.heap H locs → W p l e ({ frames := 0, cells := 0, slots := 0, locals := 0 } : Room) s0 m args below meth c H locs 0 0 (MQ below (va_Qv (fun (u : (Sto) × va_W) => (u.1 = F_RG_spread_8 pf st hf rt s ∧ frm (M_RG_spread_8 pf) s u.1 ∧ True) ∧ okn g T u.1 u.2) (po g.1 vcl A (fun (u : (Sto) × va_W) => [] ++ u.2)) A) args s0 0 0 A) (F0 m 3 ls []) := by
    intro n21
    induction n21 with
    | zero =>
      intro i21 s21 pl ls H locs hm21 hi21 hF hR hl hO hP hD hS
      refine lv_iload hx hb dRG_spread_3 (lv_at hl 0 rfl) ?_
      refine lv_iload_n hx hb dRG_spread_5 rfl (lv_at hl 3 rfl) ?_
      refine lv_iload_n hx hb dRG_spread_6 rfl (lv_at hl 4 rfl) ?_
      refine mi_iadd hx hb dRG_spread_7 ?_
      refine mi_ge (tgt := 102) hx hb dRG_spread_8 (by decide) (by omega) (by omega) (fun h21 => ?_) (fun h21 => absurd h21 (by omega))
      exact mp_vret hx hb hr hlk hP hD hS (s21, pl) ⟨⟨hR.symm, hF, trivial⟩, hO⟩ [] rfl rfl rfl (by omega) (by omega) dRG_spread_102
    | succ n21 ih21 =>
      intro i21 s21 pl ls H locs hm21 hi21 hF hR hl hO hP hD hS
      refine lv_iload hx hb dRG_spread_3 (lv_at hl 0 rfl) ?_
      refine lv_iload_n hx hb dRG_spread_5 rfl (lv_at hl 3 rfl) ?_
      refine lv_iload_n hx hb dRG_spread_6 rfl (lv_at hl 4 rfl) ?_
      refine mi_iadd hx hb dRG_spread_7 ?_
      refine mi_ge (tgt := 102) hx hb dRG_spread_8 (by decide) (by omega) (by omega) (fun h22 => absurd h22 (by omega)) (fun h22 => ?_)
      refine lv_lload hx hb dRG_spread_11 (lv_at hl 5 rfl) ?_
      refine lv_aload_n hx hb dRG_spread_13 rfl (lv_at hl 2 rfl) ?_
      refine lv_iload hx hb dRG_spread_14 (lv_at hl 0 rfl) ?_
      refine lv_iload_n hx hb dRG_spread_16 rfl (lv_at hl 4 rfl) ?_
      refine mi_iadd hx hb dRG_spread_17 ?_
      refine nw_iald hx hb hK hO k_f (k := pf) n_f hP (by omega) (by omega) dRG_spread_18 ?_
      refine lv_i2l hx hb dRG_spread_19 rfl ?_
      refine lv_lmul hx hb dRG_spread_20 ?_
      refine lv_aload_n hx hb dRG_spread_21 rfl (lv_at hl 1 rfl) ?_
      refine nw_get (C := "LatticeKeys$Ring") (TT := T_RG) (N := 4) hx hb hts (wg_ft i_RG) hown hK hO k_h0 (kn := 22) (ci := 4) (fl := [(1, 8380417), (1, 8), (1, 8347681), (3, 23)]) rfl hP rfl 0 (by decide) (hts _ (wg_t kw_91)) (fun _ h9 => h9) (cd := (1, 8380417)) rfl dRG_spread_22 (fun v21 hv21 => ?_)
      obtain rfl := (show v21 = .int (nI 8380417) from hv21)
      refine lv_i2l hx hb dRG_spread_25 rfl ?_
      refine lv_lrem hx hb dRG_spread_26 (by decide) ?_
      refine lv_l2i hx hb dRG_spread_27 rfl ?_
      refine mi_eqv (fun z21 ez21 => ?_)
      replace hR := bnd_step hR ez21
      refine lv_istore (lv' := [(7, .int z21), (6, .int (nI i21)), (0, .ref h0), (1, .ref f), (2, .int (nI st)), (3, .int (nI hf)), (4, .long rt)]) hx hb dRG_spread_28 hl (by decide) rfl (fun ls hl => ?_)
      refine lv_aload_n hx hb dRG_spread_30 rfl (lv_at hl 3 rfl) ?_
      refine lv_iload hx hb dRG_spread_31 (lv_at hl 1 rfl) ?_
      refine nw_iald hx hb hK hO k_f (k := pf) n_f hP (by omega) (by omega) dRG_spread_33 ?_
      refine lv_iload hx hb dRG_spread_34 (lv_at hl 0 rfl) ?_
      refine lv_iadd hx hb dRG_spread_36 ?_
      refine mi_eqv (fun z22 ez22 => ?_)
      replace hR := bnd_step hR ez22
      refine lv_istore (lv' := [(8, .int z22), (7, .int z21), (6, .int (nI i21)), (0, .ref h0), (1, .ref f), (2, .int (nI st)), (3, .int (nI hf)), (4, .long rt)]) hx hb dRG_spread_37 hl (by decide) rfl (fun ls hl => ?_)
      refine lv_aload_n hx hb dRG_spread_39 rfl (lv_at hl 4 rfl) ?_
      refine lv_iload hx hb dRG_spread_40 (lv_at hl 2 rfl) ?_
      refine nw_iald hx hb hK hO k_f (k := pf) n_f hP (by omega) (by omega) dRG_spread_42 ?_
      refine lv_iload hx hb dRG_spread_43 (lv_at hl 1 rfl) ?_
      refine lv_isub hx hb dRG_spread_45 ?_
      refine mi_eqv (fun z23 ez23 => ?_)
      replace hR := bnd_step hR ez23
      refine lv_istore (lv' := [(9, .int z23), (8, .int z22), (7, .int z21), (6, .int (nI i21)), (0, .ref h0), (1, .ref f), (2, .int (nI st)), (3, .int (nI hf)), (4, .long rt)]) hx hb dRG_spread_46 hl (by decide) rfl (fun ls hl => ?_)
      refine lv_aload_n hx hb dRG_spread_48 rfl (lv_at hl 5 rfl) ?_
      refine lv_iload hx hb dRG_spread_49 (lv_at hl 3 rfl) ?_
      refine lv_iload hx hb dRG_spread_51 (lv_at hl 1 rfl) ?_
      refine lv_aload_n hx hb dRG_spread_53 rfl (lv_at hl 4 rfl) ?_
      refine nw_get (C := "LatticeKeys$Ring") (TT := T_RG) (N := 4) hx hb hts (wg_ft i_RG) hown hK hO k_h0 (kn := 22) (ci := 4) (fl := [(1, 8380417), (1, 8), (1, 8347681), (3, 23)]) rfl hP rfl 0 (by decide) (hts _ (wg_t kw_91)) (fun _ h9 => h9) (cd := (1, 8380417)) rfl dRG_spread_54 (fun v22 hv22 => ?_)
      obtain rfl := (show v22 = .int (nI 8380417) from hv22)
      refine lv_icmp_lt (tgt := 70) hx hb dRG_spread_57 (by decide) (fun h23 => ?_) (fun h23 => ?_)
      · replace hR := hR.trans (if_pos h23)
        refine lv_iload hx hb dRG_spread_70 (lv_at hl 1 rfl) ?_
        refine nw_iast hx hb hK hO hU k_f (k := pf) n_f hP hD hS (by omega) (by omega) dRG_spread_72 (fun s22 pl H locs es21 hO hP hD hS => ?_)
        replace hR := bnd_step hR es21
        have hF := frm_sI hF es21 (by unfold M_RG_spread_8; omega)
        refine lv_aload_n hx hb dRG_spread_73 rfl (lv_at hl 5 rfl) ?_
        refine lv_iload hx hb dRG_spread_74 (lv_at hl 3 rfl) ?_
        refine lv_iload_n hx hb dRG_spread_76 rfl (lv_at hl 7 rfl) ?_
        refine mi_iadd hx hb dRG_spread_77 ?_
        refine lv_iload hx hb dRG_spread_78 (lv_at hl 0 rfl) ?_
        refine lv_if_ge (tgt := 93) hx hb dRG_spread_80 (by decide) (fun h24 => ?_) (fun h24 => ?_)
        · replace hR := hR.trans (if_pos h24)
          refine lv_iload hx hb dRG_spread_93 (lv_at hl 0 rfl) ?_
          refine nw_iast hx hb hK hO hU k_f (k := pf) n_f hP hD hS (by omega) (by omega) dRG_spread_95 (fun s23 pl H locs es22 hO hP hD hS => ?_)
          replace hR := bnd_step hR es22
          have hF := frm_sI hF es22 (by unfold M_RG_spread_8; omega)
          refine mi_iinc (k := 3) (x := i21) (d := 1) (y := i21 + 1) (lv' := [(6, .int (nI (i21 + 1))), (9, .int z23), (8, .int z22), (7, .int z21), (0, .ref h0), (1, .ref f), (2, .int (nI st)), (3, .int (nI hf)), (4, .long rt)]) hx hb dRG_spread_96 hl rfl (by decide) rfl (by decide) rfl (fun ls hl => ?_)
          refine lv_goto (tgt := 3) hx hb dRG_spread_99 (by decide) ?_
          exact ih21 (i21 + 1) s23 pl ls H locs (by omega) (by omega) hF hR (lv_sub hl [0, 4, 5, 6, 7, 8] rfl) hO hP hD hS
        · replace hR := hR.trans (if_neg h24)
          refine lv_iload hx hb dRG_spread_83 (lv_at hl 0 rfl) ?_
          refine lv_aload_n hx hb dRG_spread_85 rfl (lv_at hl 4 rfl) ?_
          refine nw_get (C := "LatticeKeys$Ring") (TT := T_RG) (N := 4) hx hb hts (wg_ft i_RG) hown hK hO k_h0 (kn := 22) (ci := 4) (fl := [(1, 8380417), (1, 8), (1, 8347681), (3, 23)]) rfl hP rfl 0 (by decide) (hts _ (wg_t kw_91)) (fun _ h9 => h9) (cd := (1, 8380417)) rfl dRG_spread_86 (fun v23 hv23 => ?_)
          obtain rfl := (show v23 = .int (nI 8380417) from hv23)
          refine lv_iadd hx hb dRG_spread_89 ?_
          refine lv_goto (tgt := 95) hx hb dRG_spread_90 (by decide) ?_
          refine nw_iast hx hb hK hO hU k_f (k := pf) n_f hP hD hS (by omega) (by omega) dRG_spread_95 (fun s24 pl H locs es23 hO hP hD hS => ?_)
          replace hR := bnd_step hR es23
          have hF := frm_sI hF es23 (by unfold M_RG_spread_8; omega)
          refine mi_iinc (k := 3) (x := i21) (d := 1) (y := i21 + 1) (lv' := [(6, .int (nI (i21 + 1))), (9, .int z23), (8, .int z22), (7, .int z21), (0, .ref h0), (1, .ref f), (2, .int (nI st)), (3, .int (nI hf)), (4, .long rt)]) hx hb dRG_spread_96 hl rfl (by decide) rfl (by decide) rfl (fun ls hl => ?_)
          refine lv_goto (tgt := 3) hx hb dRG_spread_99 (by decide) ?_
          exact ih21 (i21 + 1) s24 pl ls H locs (by omega) (by omega) hF hR (lv_sub hl [0, 4, 5, 6, 7, 8] rfl) hO hP hD hS
      · replace hR := hR.trans (if_neg h23)
        refine lv_iload hx hb dRG_spread_60 (lv_at hl 1 rfl) ?_
        refine lv_aload_n hx hb dRG_spread_62 rfl (lv_at hl 4 rfl) ?_
        refine nw_get (C := "LatticeKeys$Ring") (TT := T_RG) (N := 4) hx hb hts (wg_ft i_RG) hown hK hO k_h0 (kn := 22) (ci := 4) (fl := [(1, 8380417), (1, 8), (1, 8347681), (3, 23)]) rfl hP rfl 0 (by decide) (hts _ (wg_t kw_91)) (fun _ h9 => h9) (cd := (1, 8380417)) rfl dRG_spread_63 (fun v24 hv24 => ?_)
        obtain rfl := (show v24 = .int (nI 8380417) from hv24)
        refine lv_isub hx hb dRG_spread_66 ?_
        refine lv_goto (tgt := 72) hx hb dRG_spread_67 (by decide) ?_
        refine nw_iast hx hb hK hO hU k_f (k := pf) n_f hP hD hS (by omega) (by omega) dRG_spread_72 (fun s25 pl H locs es24 hO hP hD hS => ?_)
        replace hR := bnd_step hR es24
        have hF := frm_sI hF es24 (by unfold M_RG_spread_8; omega)
        refine lv_aload_n hx hb dRG_spread_73 rfl (lv_at hl 5 rfl) ?_
        refine lv_iload hx hb dRG_spread_74 (lv_at hl 3 rfl) ?_
        refine lv_iload_n hx hb dRG_spread_76 rfl (lv_at hl 7 rfl) ?_
        refine mi_iadd hx hb dRG_spread_77 ?_
        refine lv_iload hx hb dRG_spread_78 (lv_at hl 0 rfl) ?_
        refine lv_if_ge (tgt := 93) hx hb dRG_spread_80 (by decide) (fun h25 => ?_) (fun h25 => ?_)
        · replace hR := hR.trans (if_pos h25)
          refine lv_iload hx hb dRG_spread_93 (lv_at hl 0 rfl) ?_
          refine nw_iast hx hb hK hO hU k_f (k := pf) n_f hP hD hS (by omega) (by omega) dRG_spread_95 (fun s26 pl H locs es25 hO hP hD hS => ?_)
          replace hR := bnd_step hR es25
          have hF := frm_sI hF es25 (by unfold M_RG_spread_8; omega)
          refine mi_iinc (k := 3) (x := i21) (d := 1) (y := i21 + 1) (lv' := [(6, .int (nI (i21 + 1))), (9, .int z23), (8, .int z22), (7, .int z21), (0, .ref h0), (1, .ref f), (2, .int (nI st)), (3, .int (nI hf)), (4, .long rt)]) hx hb dRG_spread_96 hl rfl (by decide) rfl (by decide) rfl (fun ls hl => ?_)
          refine lv_goto (tgt := 3) hx hb dRG_spread_99 (by decide) ?_
          exact ih21 (i21 + 1) s26 pl ls H locs (by omega) (by omega) hF hR (lv_sub hl [0, 4, 5, 6, 7, 8] rfl) hO hP hD hS
        · replace hR := hR.trans (if_neg h25)
          refine lv_iload hx hb dRG_spread_83 (lv_at hl 0 rfl) ?_
          refine lv_aload_n hx hb dRG_spread_85 rfl (lv_at hl 4 rfl) ?_
          refine nw_get (C := "LatticeKeys$Ring") (TT := T_RG) (N := 4) hx hb hts (wg_ft i_RG) hown hK hO k_h0 (kn := 22) (ci := 4) (fl := [(1, 8380417), (1, 8), (1, 8347681), (3, 23)]) rfl hP rfl 0 (by decide) (hts _ (wg_t kw_91)) (fun _ h9 => h9) (cd := (1, 8380417)) rfl dRG_spread_86 (fun v25 hv25 => ?_)
          obtain rfl := (show v25 = .int (nI 8380417) from hv25)
          refine lv_iadd hx hb dRG_spread_89 ?_
          refine lv_goto (tgt := 95) hx hb dRG_spread_90 (by decide) ?_
          refine nw_iast hx hb hK hO hU k_f (k := pf) n_f hP hD hS (by omega) (by omega) dRG_spread_95 (fun s27 pl H locs es26 hO hP hD hS => ?_)
          replace hR := bnd_step hR es26
          have hF := frm_sI hF es26 (by unfold M_RG_spread_8; omega)
          refine mi_iinc (k := 3) (x := i21) (d := 1) (y := i21 + 1) (lv' := [(6, .int (nI (i21 + 1))), (9, .int z23), (8, .int z22), (7, .int z21), (0, .ref h0), (1, .ref f), (2, .int (nI st)), (3, .int (nI hf)), (4, .long rt)]) hx hb dRG_spread_96 hl rfl (by decide) rfl (by decide) rfl (fun ls hl => ?_)
          refine lv_goto (tgt := 3) hx hb dRG_spread_99 (by decide) ?_
          exact ih21 (i21 + 1) s27 pl ls H locs (by omega) (by omega) hF hR (lv_sub hl [0, 4, 5, 6, 7, 8] rfl) hO hP hD hS
  exact lp21 ((st + hf) - st) st s pl ls _ _ (by omega) (by omega) hF hR (lv_sub hl [0, 1, 2, 3, 4, 5] rfl) hO hP hD hS
def M_RG_gather_7 (pf : Nat) (k : Nat) : Prop := k = pf ∨ (0 : Nat) = 1
noncomputable def F_RG_gather_7_L0 (pf : Nat) (hf : Nat) (rt : Int64) : Nat → Nat → Sto → Sto
  | 0, i21, s21 => s21
  | n21 + 1, i21, s21 => bnd (((s21.1 pf i21) + (s21.1 pf (i21 + hf)))) fun z21 => bnd ((((s21.1 pf (i21 + hf)) - (s21.1 pf i21)) + (nI 3329))) fun z22 => if z21 < (nI 3329) then bnd (sI s21 pf i21 z21) fun s22 => bnd (sI s22 pf (i21 + hf) (((rt * (z22.toInt64)) - (rt * (z22.toInt64)) / ((nI 3329).toInt64) * ((nI 3329).toInt64)).toInt32)) fun s23 => F_RG_gather_7_L0 pf hf rt n21 (i21 + 1) s23 else bnd (sI s21 pf i21 (z21 - (nI 3329))) fun s24 => bnd (sI s24 pf (i21 + hf) (((rt * (z22.toInt64)) - (rt * (z22.toInt64)) / ((nI 3329).toInt64) * ((nI 3329).toInt64)).toInt32)) fun s25 => F_RG_gather_7_L0 pf hf rt n21 (i21 + 1) s25
noncomputable def F_RG_gather_7 (pf : Nat) (st : Nat) (hf : Nat) (rt : Int64) (s : Sto) : Sto := F_RG_gather_7_L0 pf hf rt ((st + hf) - st) st s
set_option maxHeartbeats 400000 in
set_option maxRecDepth 100000 in
theorem N_RG_gather_7 (l : Launch) (g : Gd) (sz : Nat) (T : TyN) (s : Sto) (pl : va_W) (hO : okn g T s pl) (hU : inj T) (h0 f : Nat) (pf : Nat) (st : Nat) (hf : Nat) (rt : Int64) (k_h0 : T h0 = some 20) (k_f : T f = some pf) (n_f : nsp pf = (0, 256, [])) (h1 : st + 2 * hf ≤ 256)  : Met l y_RG_gather w_RG_gather ({ frames := 0, cells := 0, slots := 0, locals := 0 } : Room) (va_Pc [.ref h0, .ref f, .int (nI st), .int (nI hf), .long rt] (pr (en g) g.1 vcl sz ([] ++ pl))) (va_Qv (fun (u : (Sto) × va_W) => (u.1 = F_RG_gather_7 pf st hf rt s ∧ frm (M_RG_gather_7 pf) s u.1 ∧ True) ∧ okn g T u.1 u.2) (po g.1 vcl (va_A ([] ++ pl) sz) (fun (u : (Sto) × va_W) => [] ++ u.2)) (va_A ([] ++ pl) sz)) 0 0 (va_A ([] ++ pl) sz) := by
  refine mc_entry (cc := c_RG_gather) (maxL := 9) (ret := none) (by decide) rfl (Nat.le_of_ble_eq_true rfl) ?_
  intro p e s0 m args below meth c ls F hr hlk hnm hsz hP hD hE hA hl
  obtain ⟨hx, hb, hml, hown, hts⟩ := id F
  have hK := hE.1
  generalize va_A ([] ++ pl) sz = A at hD hE hA ⊢
  have hS : va_S A s0.heap s0.heap [] := va_S.rf
  have hl : lv_has ls 9 [(0, .ref h0), (1, .ref f), (2, .int (nI st)), (3, .int (nI hf)), (4, .long rt)] := hl
  have hR : F_RG_gather_7 pf st hf rt s = F_RG_gather_7 pf st hf rt s := rfl
  have hF : frm (M_RG_gather_7 pf) s s := frm_rf
  refine lv_iload_n hx hb dRG_gather_0 rfl (lv_at hl 2 rfl) ?_
  refine lv_istore (lv' := [(6, .int (nI st)), (0, .ref h0), (1, .ref f), (2, .int (nI st)), (3, .int (nI hf)), (4, .long rt)]) hx hb dRG_gather_1 hl (by decide) rfl (fun ls hl => ?_)
  have lp21 : ∀ (n21 : Nat) (i21 : Nat) (s21 : Sto) (pl : va_W) (ls : Array Slot) (H : Heap) (locs : List Loc), n21 + i21 = st + hf → (st ≤ i21) → frm (M_RG_gather_7 pf) s s21 → F_RG_gather_7 pf st hf rt s = F_RG_gather_7_L0 pf hf rt n21 i21 s21 → lv_has ls 9 [(6, .int (nI i21)), (0, .ref h0), (1, .ref f), (2, .int (nI st)), (3, .int (nI hf)), (4, .long rt)] → okn g T s21 pl → va_P g.1 vcl ([] ++ pl) H → va_D A ([] ++ pl) → va_S A s0.heap H locs → W p l e ({ frames := 0, cells := 0, slots := 0, locals := 0 } : Room) s0 m args below meth c H locs 0 0 (MQ below (va_Qv (fun (u : (Sto) × va_W) => (u.1 = F_RG_gather_7 pf st hf rt s ∧ frm (M_RG_gather_7 pf) s u.1 ∧ True) ∧ okn g T u.1 u.2) (po g.1 vcl A (fun (u : (Sto) × va_W) => [] ++ u.2)) A) args s0 0 0 A) (F0 m 3 ls []) := by
    intro n21
    induction n21 with
    | zero =>
      intro i21 s21 pl ls H locs hm21 hi21 hF hR hl hO hP hD hS
      refine lv_iload hx hb dRG_gather_3 (lv_at hl 0 rfl) ?_
      refine lv_iload_n hx hb dRG_gather_5 rfl (lv_at hl 3 rfl) ?_
      refine lv_iload_n hx hb dRG_gather_6 rfl (lv_at hl 4 rfl) ?_
      refine mi_iadd hx hb dRG_gather_7 ?_
      refine mi_ge (tgt := 92) hx hb dRG_gather_8 (by decide) (by omega) (by omega) (fun h21 => ?_) (fun h21 => absurd h21 (by omega))
      exact mp_vret hx hb hr hlk hP hD hS (s21, pl) ⟨⟨hR.symm, hF, trivial⟩, hO⟩ [] rfl rfl rfl (by omega) (by omega) dRG_gather_92
    | succ n21 ih21 =>
      intro i21 s21 pl ls H locs hm21 hi21 hF hR hl hO hP hD hS
      refine lv_iload hx hb dRG_gather_3 (lv_at hl 0 rfl) ?_
      refine lv_iload_n hx hb dRG_gather_5 rfl (lv_at hl 3 rfl) ?_
      refine lv_iload_n hx hb dRG_gather_6 rfl (lv_at hl 4 rfl) ?_
      refine mi_iadd hx hb dRG_gather_7 ?_
      refine mi_ge (tgt := 92) hx hb dRG_gather_8 (by decide) (by omega) (by omega) (fun h22 => absurd h22 (by omega)) (fun h22 => ?_)
      refine lv_aload_n hx hb dRG_gather_11 rfl (lv_at hl 2 rfl) ?_
      refine lv_iload hx hb dRG_gather_12 (lv_at hl 0 rfl) ?_
      refine nw_iald hx hb hK hO k_f (k := pf) n_f hP (by omega) (by omega) dRG_gather_14 ?_
      refine lv_aload_n hx hb dRG_gather_15 rfl (lv_at hl 2 rfl) ?_
      refine lv_iload hx hb dRG_gather_16 (lv_at hl 0 rfl) ?_
      refine lv_iload_n hx hb dRG_gather_18 rfl (lv_at hl 4 rfl) ?_
      refine mi_iadd hx hb dRG_gather_19 ?_
      refine nw_iald hx hb hK hO k_f (k := pf) n_f hP (by omega) (by omega) dRG_gather_20 ?_
      refine lv_iadd hx hb dRG_gather_21 ?_
      refine mi_eqv (fun z21 ez21 => ?_)
      replace hR := bnd_step hR ez21
      refine lv_istore (lv' := [(7, .int z21), (6, .int (nI i21)), (0, .ref h0), (1, .ref f), (2, .int (nI st)), (3, .int (nI hf)), (4, .long rt)]) hx hb dRG_gather_22 hl (by decide) rfl (fun ls hl => ?_)
      refine lv_aload_n hx hb dRG_gather_24 rfl (lv_at hl 3 rfl) ?_
      refine lv_iload hx hb dRG_gather_25 (lv_at hl 1 rfl) ?_
      refine lv_iload_n hx hb dRG_gather_27 rfl (lv_at hl 5 rfl) ?_
      refine mi_iadd hx hb dRG_gather_28 ?_
      refine nw_iald hx hb hK hO k_f (k := pf) n_f hP (by omega) (by omega) dRG_gather_29 ?_
      refine lv_aload_n hx hb dRG_gather_30 rfl (lv_at hl 3 rfl) ?_
      refine lv_iload hx hb dRG_gather_31 (lv_at hl 1 rfl) ?_
      refine nw_iald hx hb hK hO k_f (k := pf) n_f hP (by omega) (by omega) dRG_gather_33 ?_
      refine lv_isub hx hb dRG_gather_34 ?_
      refine lv_aload_n hx hb dRG_gather_35 rfl (lv_at hl 2 rfl) ?_
      refine nw_get (C := "LatticeKeys$Ring") (TT := T_RG) (N := 4) hx hb hts (wg_ft i_RG) hown hK hO k_h0 (kn := 20) (ci := 4) (fl := [(1, 3329), (1, 7), (1, 3303), (3, 21)]) rfl hP rfl 0 (by decide) (hts _ (wg_t kw_91)) (fun _ h9 => h9) (cd := (1, 3329)) rfl dRG_gather_36 (fun v21 hv21 => ?_)
      obtain rfl := (show v21 = .int (nI 3329) from hv21)
      refine lv_iadd hx hb dRG_gather_39 ?_
      refine mi_eqv (fun z22 ez22 => ?_)
      replace hR := bnd_step hR ez22
      refine lv_istore (lv' := [(8, .int z22), (7, .int z21), (6, .int (nI i21)), (0, .ref h0), (1, .ref f), (2, .int (nI st)), (3, .int (nI hf)), (4, .long rt)]) hx hb dRG_gather_40 hl (by decide) rfl (fun ls hl => ?_)
      refine lv_aload_n hx hb dRG_gather_42 rfl (lv_at hl 4 rfl) ?_
      refine lv_iload hx hb dRG_gather_43 (lv_at hl 2 rfl) ?_
      refine lv_iload hx hb dRG_gather_45 (lv_at hl 1 rfl) ?_
      refine lv_aload_n hx hb dRG_gather_47 rfl (lv_at hl 3 rfl) ?_
      refine nw_get (C := "LatticeKeys$Ring") (TT := T_RG) (N := 4) hx hb hts (wg_ft i_RG) hown hK hO k_h0 (kn := 20) (ci := 4) (fl := [(1, 3329), (1, 7), (1, 3303), (3, 21)]) rfl hP rfl 0 (by decide) (hts _ (wg_t kw_91)) (fun _ h9 => h9) (cd := (1, 3329)) rfl dRG_gather_48 (fun v22 hv22 => ?_)
      obtain rfl := (show v22 = .int (nI 3329) from hv22)
      refine lv_icmp_lt (tgt := 64) hx hb dRG_gather_51 (by decide) (fun h23 => ?_) (fun h23 => ?_)
      · replace hR := hR.trans (if_pos h23)
        refine lv_iload hx hb dRG_gather_64 (lv_at hl 1 rfl) ?_
        refine nw_iast hx hb hK hO hU k_f (k := pf) n_f hP hD hS (by omega) (by omega) dRG_gather_66 (fun s22 pl H locs es21 hO hP hD hS => ?_)
        replace hR := bnd_step hR es21
        have hF := frm_sI hF es21 (by unfold M_RG_gather_7; omega)
        refine lv_aload_n hx hb dRG_gather_67 rfl (lv_at hl 4 rfl) ?_
        refine lv_iload hx hb dRG_gather_68 (lv_at hl 2 rfl) ?_
        refine lv_iload_n hx hb dRG_gather_70 rfl (lv_at hl 6 rfl) ?_
        refine mi_iadd hx hb dRG_gather_71 ?_
        refine lv_lload hx hb dRG_gather_72 (lv_at hl 7 rfl) ?_
        refine lv_iload hx hb dRG_gather_74 (lv_at hl 0 rfl) ?_
        refine lv_i2l hx hb dRG_gather_76 rfl ?_
        refine lv_lmul hx hb dRG_gather_77 ?_
        refine lv_aload_n hx hb dRG_gather_78 rfl (lv_at hl 3 rfl) ?_
        refine nw_get (C := "LatticeKeys$Ring") (TT := T_RG) (N := 4) hx hb hts (wg_ft i_RG) hown hK hO k_h0 (kn := 20) (ci := 4) (fl := [(1, 3329), (1, 7), (1, 3303), (3, 21)]) rfl hP rfl 0 (by decide) (hts _ (wg_t kw_91)) (fun _ h9 => h9) (cd := (1, 3329)) rfl dRG_gather_79 (fun v23 hv23 => ?_)
        obtain rfl := (show v23 = .int (nI 3329) from hv23)
        refine lv_i2l hx hb dRG_gather_82 rfl ?_
        refine lv_lrem hx hb dRG_gather_83 (by decide) ?_
        refine lv_l2i hx hb dRG_gather_84 rfl ?_
        refine nw_iast hx hb hK hO hU k_f (k := pf) n_f hP hD hS (by omega) (by omega) dRG_gather_85 (fun s23 pl H locs es22 hO hP hD hS => ?_)
        replace hR := bnd_step hR es22
        have hF := frm_sI hF es22 (by unfold M_RG_gather_7; omega)
        refine mi_iinc (k := 2) (x := i21) (d := 1) (y := i21 + 1) (lv' := [(6, .int (nI (i21 + 1))), (8, .int z22), (7, .int z21), (0, .ref h0), (1, .ref f), (2, .int (nI st)), (3, .int (nI hf)), (4, .long rt)]) hx hb dRG_gather_86 hl rfl (by decide) rfl (by decide) rfl (fun ls hl => ?_)
        refine lv_goto (tgt := 3) hx hb dRG_gather_89 (by decide) ?_
        exact ih21 (i21 + 1) s23 pl ls H locs (by omega) (by omega) hF hR (lv_sub hl [0, 3, 4, 5, 6, 7] rfl) hO hP hD hS
      · replace hR := hR.trans (if_neg h23)
        refine lv_iload hx hb dRG_gather_54 (lv_at hl 1 rfl) ?_
        refine lv_aload_n hx hb dRG_gather_56 rfl (lv_at hl 3 rfl) ?_
        refine nw_get (C := "LatticeKeys$Ring") (TT := T_RG) (N := 4) hx hb hts (wg_ft i_RG) hown hK hO k_h0 (kn := 20) (ci := 4) (fl := [(1, 3329), (1, 7), (1, 3303), (3, 21)]) rfl hP rfl 0 (by decide) (hts _ (wg_t kw_91)) (fun _ h9 => h9) (cd := (1, 3329)) rfl dRG_gather_57 (fun v24 hv24 => ?_)
        obtain rfl := (show v24 = .int (nI 3329) from hv24)
        refine lv_isub hx hb dRG_gather_60 ?_
        refine lv_goto (tgt := 66) hx hb dRG_gather_61 (by decide) ?_
        refine nw_iast hx hb hK hO hU k_f (k := pf) n_f hP hD hS (by omega) (by omega) dRG_gather_66 (fun s24 pl H locs es23 hO hP hD hS => ?_)
        replace hR := bnd_step hR es23
        have hF := frm_sI hF es23 (by unfold M_RG_gather_7; omega)
        refine lv_aload_n hx hb dRG_gather_67 rfl (lv_at hl 4 rfl) ?_
        refine lv_iload hx hb dRG_gather_68 (lv_at hl 2 rfl) ?_
        refine lv_iload_n hx hb dRG_gather_70 rfl (lv_at hl 6 rfl) ?_
        refine mi_iadd hx hb dRG_gather_71 ?_
        refine lv_lload hx hb dRG_gather_72 (lv_at hl 7 rfl) ?_
        refine lv_iload hx hb dRG_gather_74 (lv_at hl 0 rfl) ?_
        refine lv_i2l hx hb dRG_gather_76 rfl ?_
        refine lv_lmul hx hb dRG_gather_77 ?_
        refine lv_aload_n hx hb dRG_gather_78 rfl (lv_at hl 3 rfl) ?_
        refine nw_get (C := "LatticeKeys$Ring") (TT := T_RG) (N := 4) hx hb hts (wg_ft i_RG) hown hK hO k_h0 (kn := 20) (ci := 4) (fl := [(1, 3329), (1, 7), (1, 3303), (3, 21)]) rfl hP rfl 0 (by decide) (hts _ (wg_t kw_91)) (fun _ h9 => h9) (cd := (1, 3329)) rfl dRG_gather_79 (fun v25 hv25 => ?_)
        obtain rfl := (show v25 = .int (nI 3329) from hv25)
        refine lv_i2l hx hb dRG_gather_82 rfl ?_
        refine lv_lrem hx hb dRG_gather_83 (by decide) ?_
        refine lv_l2i hx hb dRG_gather_84 rfl ?_
        refine nw_iast hx hb hK hO hU k_f (k := pf) n_f hP hD hS (by omega) (by omega) dRG_gather_85 (fun s25 pl H locs es24 hO hP hD hS => ?_)
        replace hR := bnd_step hR es24
        have hF := frm_sI hF es24 (by unfold M_RG_gather_7; omega)
        refine mi_iinc (k := 2) (x := i21) (d := 1) (y := i21 + 1) (lv' := [(6, .int (nI (i21 + 1))), (8, .int z22), (7, .int z21), (0, .ref h0), (1, .ref f), (2, .int (nI st)), (3, .int (nI hf)), (4, .long rt)]) hx hb dRG_gather_86 hl rfl (by decide) rfl (by decide) rfl (fun ls hl => ?_)
        refine lv_goto (tgt := 3) hx hb dRG_gather_89 (by decide) ?_
        exact ih21 (i21 + 1) s25 pl ls H locs (by omega) (by omega) hF hR (lv_sub hl [0, 3, 4, 5, 6, 7] rfl) hO hP hD hS
  exact lp21 ((st + hf) - st) st s pl ls _ _ (by omega) (by omega) hF hR (lv_sub hl [0, 1, 2, 3, 4, 5] rfl) hO hP hD hS
def M_RG_gather_8 (pf : Nat) (k : Nat) : Prop := k = pf ∨ (0 : Nat) = 1
noncomputable def F_RG_gather_8_L0 (pf : Nat) (hf : Nat) (rt : Int64) : Nat → Nat → Sto → Sto
  | 0, i21, s21 => s21
  | n21 + 1, i21, s21 => bnd (((s21.1 pf i21) + (s21.1 pf (i21 + hf)))) fun z21 => bnd ((((s21.1 pf (i21 + hf)) - (s21.1 pf i21)) + (nI 8380417))) fun z22 => if z21 < (nI 8380417) then bnd (sI s21 pf i21 z21) fun s22 => bnd (sI s22 pf (i21 + hf) (((rt * (z22.toInt64)) - (rt * (z22.toInt64)) / ((nI 8380417).toInt64) * ((nI 8380417).toInt64)).toInt32)) fun s23 => F_RG_gather_8_L0 pf hf rt n21 (i21 + 1) s23 else bnd (sI s21 pf i21 (z21 - (nI 8380417))) fun s24 => bnd (sI s24 pf (i21 + hf) (((rt * (z22.toInt64)) - (rt * (z22.toInt64)) / ((nI 8380417).toInt64) * ((nI 8380417).toInt64)).toInt32)) fun s25 => F_RG_gather_8_L0 pf hf rt n21 (i21 + 1) s25
noncomputable def F_RG_gather_8 (pf : Nat) (st : Nat) (hf : Nat) (rt : Int64) (s : Sto) : Sto := F_RG_gather_8_L0 pf hf rt ((st + hf) - st) st s
set_option maxHeartbeats 400000 in
set_option maxRecDepth 100000 in
theorem N_RG_gather_8 (l : Launch) (g : Gd) (sz : Nat) (T : TyN) (s : Sto) (pl : va_W) (hO : okn g T s pl) (hU : inj T) (h0 f : Nat) (pf : Nat) (st : Nat) (hf : Nat) (rt : Int64) (k_h0 : T h0 = some 22) (k_f : T f = some pf) (n_f : nsp pf = (0, 256, [])) (h1 : st + 2 * hf ≤ 256)  : Met l y_RG_gather w_RG_gather ({ frames := 0, cells := 0, slots := 0, locals := 0 } : Room) (va_Pc [.ref h0, .ref f, .int (nI st), .int (nI hf), .long rt] (pr (en g) g.1 vcl sz ([] ++ pl))) (va_Qv (fun (u : (Sto) × va_W) => (u.1 = F_RG_gather_8 pf st hf rt s ∧ frm (M_RG_gather_8 pf) s u.1 ∧ True) ∧ okn g T u.1 u.2) (po g.1 vcl (va_A ([] ++ pl) sz) (fun (u : (Sto) × va_W) => [] ++ u.2)) (va_A ([] ++ pl) sz)) 0 0 (va_A ([] ++ pl) sz) := by
  refine mc_entry (cc := c_RG_gather) (maxL := 9) (ret := none) (by decide) rfl (Nat.le_of_ble_eq_true rfl) ?_
  intro p e s0 m args below meth c ls F hr hlk hnm hsz hP hD hE hA hl
  obtain ⟨hx, hb, hml, hown, hts⟩ := id F
  have hK := hE.1
  generalize va_A ([] ++ pl) sz = A at hD hE hA ⊢
  have hS : va_S A s0.heap s0.heap [] := va_S.rf
  have hl : lv_has ls 9 [(0, .ref h0), (1, .ref f), (2, .int (nI st)), (3, .int (nI hf)), (4, .long rt)] := hl
  have hR : F_RG_gather_8 pf st hf rt s = F_RG_gather_8 pf st hf rt s := rfl
  have hF : frm (M_RG_gather_8 pf) s s := frm_rf
  refine lv_iload_n hx hb dRG_gather_0 rfl (lv_at hl 2 rfl) ?_
  refine lv_istore (lv' := [(6, .int (nI st)), (0, .ref h0), (1, .ref f), (2, .int (nI st)), (3, .int (nI hf)), (4, .long rt)]) hx hb dRG_gather_1 hl (by decide) rfl (fun ls hl => ?_)
  have lp21 : ∀ (n21 : Nat) (i21 : Nat) (s21 : Sto) (pl : va_W) (ls : Array Slot) (H : Heap) (locs : List Loc), n21 + i21 = st + hf → (st ≤ i21) → frm (M_RG_gather_8 pf) s s21 → F_RG_gather_8 pf st hf rt s = F_RG_gather_8_L0 pf hf rt n21 i21 s21 → lv_has ls 9 [(6, .int (nI i21)), (0, .ref h0), (1, .ref f), (2, .int (nI st)), (3, .int (nI hf)), (4, .long rt)] → okn g T s21 pl → va_P g.1 vcl ([] ++ pl) H → va_D A ([] ++ pl) → va_S A s0.heap H locs → W p l e ({ frames := 0, cells := 0, slots := 0, locals := 0 } : Room) s0 m args below meth c H locs 0 0 (MQ below (va_Qv (fun (u : (Sto) × va_W) => (u.1 = F_RG_gather_8 pf st hf rt s ∧ frm (M_RG_gather_8 pf) s u.1 ∧ True) ∧ okn g T u.1 u.2) (po g.1 vcl A (fun (u : (Sto) × va_W) => [] ++ u.2)) A) args s0 0 0 A) (F0 m 3 ls []) := by
    intro n21
    induction n21 with
    | zero =>
      intro i21 s21 pl ls H locs hm21 hi21 hF hR hl hO hP hD hS
      refine lv_iload hx hb dRG_gather_3 (lv_at hl 0 rfl) ?_
      refine lv_iload_n hx hb dRG_gather_5 rfl (lv_at hl 3 rfl) ?_
      refine lv_iload_n hx hb dRG_gather_6 rfl (lv_at hl 4 rfl) ?_
      refine mi_iadd hx hb dRG_gather_7 ?_
      refine mi_ge (tgt := 92) hx hb dRG_gather_8 (by decide) (by omega) (by omega) (fun h21 => ?_) (fun h21 => absurd h21 (by omega))
      exact mp_vret hx hb hr hlk hP hD hS (s21, pl) ⟨⟨hR.symm, hF, trivial⟩, hO⟩ [] rfl rfl rfl (by omega) (by omega) dRG_gather_92
    | succ n21 ih21 =>
      intro i21 s21 pl ls H locs hm21 hi21 hF hR hl hO hP hD hS
      refine lv_iload hx hb dRG_gather_3 (lv_at hl 0 rfl) ?_
      refine lv_iload_n hx hb dRG_gather_5 rfl (lv_at hl 3 rfl) ?_
      refine lv_iload_n hx hb dRG_gather_6 rfl (lv_at hl 4 rfl) ?_
      refine mi_iadd hx hb dRG_gather_7 ?_
      refine mi_ge (tgt := 92) hx hb dRG_gather_8 (by decide) (by omega) (by omega) (fun h22 => absurd h22 (by omega)) (fun h22 => ?_)
      refine lv_aload_n hx hb dRG_gather_11 rfl (lv_at hl 2 rfl) ?_
      refine lv_iload hx hb dRG_gather_12 (lv_at hl 0 rfl) ?_
      refine nw_iald hx hb hK hO k_f (k := pf) n_f hP (by omega) (by omega) dRG_gather_14 ?_
      refine lv_aload_n hx hb dRG_gather_15 rfl (lv_at hl 2 rfl) ?_
      refine lv_iload hx hb dRG_gather_16 (lv_at hl 0 rfl) ?_
      refine lv_iload_n hx hb dRG_gather_18 rfl (lv_at hl 4 rfl) ?_
      refine mi_iadd hx hb dRG_gather_19 ?_
      refine nw_iald hx hb hK hO k_f (k := pf) n_f hP (by omega) (by omega) dRG_gather_20 ?_
      refine lv_iadd hx hb dRG_gather_21 ?_
      refine mi_eqv (fun z21 ez21 => ?_)
      replace hR := bnd_step hR ez21
      refine lv_istore (lv' := [(7, .int z21), (6, .int (nI i21)), (0, .ref h0), (1, .ref f), (2, .int (nI st)), (3, .int (nI hf)), (4, .long rt)]) hx hb dRG_gather_22 hl (by decide) rfl (fun ls hl => ?_)
      refine lv_aload_n hx hb dRG_gather_24 rfl (lv_at hl 3 rfl) ?_
      refine lv_iload hx hb dRG_gather_25 (lv_at hl 1 rfl) ?_
      refine lv_iload_n hx hb dRG_gather_27 rfl (lv_at hl 5 rfl) ?_
      refine mi_iadd hx hb dRG_gather_28 ?_
      refine nw_iald hx hb hK hO k_f (k := pf) n_f hP (by omega) (by omega) dRG_gather_29 ?_
      refine lv_aload_n hx hb dRG_gather_30 rfl (lv_at hl 3 rfl) ?_
      refine lv_iload hx hb dRG_gather_31 (lv_at hl 1 rfl) ?_
      refine nw_iald hx hb hK hO k_f (k := pf) n_f hP (by omega) (by omega) dRG_gather_33 ?_
      refine lv_isub hx hb dRG_gather_34 ?_
      refine lv_aload_n hx hb dRG_gather_35 rfl (lv_at hl 2 rfl) ?_
      refine nw_get (C := "LatticeKeys$Ring") (TT := T_RG) (N := 4) hx hb hts (wg_ft i_RG) hown hK hO k_h0 (kn := 22) (ci := 4) (fl := [(1, 8380417), (1, 8), (1, 8347681), (3, 23)]) rfl hP rfl 0 (by decide) (hts _ (wg_t kw_91)) (fun _ h9 => h9) (cd := (1, 8380417)) rfl dRG_gather_36 (fun v21 hv21 => ?_)
      obtain rfl := (show v21 = .int (nI 8380417) from hv21)
      refine lv_iadd hx hb dRG_gather_39 ?_
      refine mi_eqv (fun z22 ez22 => ?_)
      replace hR := bnd_step hR ez22
      refine lv_istore (lv' := [(8, .int z22), (7, .int z21), (6, .int (nI i21)), (0, .ref h0), (1, .ref f), (2, .int (nI st)), (3, .int (nI hf)), (4, .long rt)]) hx hb dRG_gather_40 hl (by decide) rfl (fun ls hl => ?_)
      refine lv_aload_n hx hb dRG_gather_42 rfl (lv_at hl 4 rfl) ?_
      refine lv_iload hx hb dRG_gather_43 (lv_at hl 2 rfl) ?_
      refine lv_iload hx hb dRG_gather_45 (lv_at hl 1 rfl) ?_
      refine lv_aload_n hx hb dRG_gather_47 rfl (lv_at hl 3 rfl) ?_
      refine nw_get (C := "LatticeKeys$Ring") (TT := T_RG) (N := 4) hx hb hts (wg_ft i_RG) hown hK hO k_h0 (kn := 22) (ci := 4) (fl := [(1, 8380417), (1, 8), (1, 8347681), (3, 23)]) rfl hP rfl 0 (by decide) (hts _ (wg_t kw_91)) (fun _ h9 => h9) (cd := (1, 8380417)) rfl dRG_gather_48 (fun v22 hv22 => ?_)
      obtain rfl := (show v22 = .int (nI 8380417) from hv22)
      refine lv_icmp_lt (tgt := 64) hx hb dRG_gather_51 (by decide) (fun h23 => ?_) (fun h23 => ?_)
      · replace hR := hR.trans (if_pos h23)
        refine lv_iload hx hb dRG_gather_64 (lv_at hl 1 rfl) ?_
        refine nw_iast hx hb hK hO hU k_f (k := pf) n_f hP hD hS (by omega) (by omega) dRG_gather_66 (fun s22 pl H locs es21 hO hP hD hS => ?_)
        replace hR := bnd_step hR es21
        have hF := frm_sI hF es21 (by unfold M_RG_gather_8; omega)
        refine lv_aload_n hx hb dRG_gather_67 rfl (lv_at hl 4 rfl) ?_
        refine lv_iload hx hb dRG_gather_68 (lv_at hl 2 rfl) ?_
        refine lv_iload_n hx hb dRG_gather_70 rfl (lv_at hl 6 rfl) ?_
        refine mi_iadd hx hb dRG_gather_71 ?_
        refine lv_lload hx hb dRG_gather_72 (lv_at hl 7 rfl) ?_
        refine lv_iload hx hb dRG_gather_74 (lv_at hl 0 rfl) ?_
        refine lv_i2l hx hb dRG_gather_76 rfl ?_
        refine lv_lmul hx hb dRG_gather_77 ?_
        refine lv_aload_n hx hb dRG_gather_78 rfl (lv_at hl 3 rfl) ?_
        refine nw_get (C := "LatticeKeys$Ring") (TT := T_RG) (N := 4) hx hb hts (wg_ft i_RG) hown hK hO k_h0 (kn := 22) (ci := 4) (fl := [(1, 8380417), (1, 8), (1, 8347681), (3, 23)]) rfl hP rfl 0 (by decide) (hts _ (wg_t kw_91)) (fun _ h9 => h9) (cd := (1, 8380417)) rfl dRG_gather_79 (fun v23 hv23 => ?_)
        obtain rfl := (show v23 = .int (nI 8380417) from hv23)
        refine lv_i2l hx hb dRG_gather_82 rfl ?_
        refine lv_lrem hx hb dRG_gather_83 (by decide) ?_
        refine lv_l2i hx hb dRG_gather_84 rfl ?_
        refine nw_iast hx hb hK hO hU k_f (k := pf) n_f hP hD hS (by omega) (by omega) dRG_gather_85 (fun s23 pl H locs es22 hO hP hD hS => ?_)
        replace hR := bnd_step hR es22
        have hF := frm_sI hF es22 (by unfold M_RG_gather_8; omega)
        refine mi_iinc (k := 2) (x := i21) (d := 1) (y := i21 + 1) (lv' := [(6, .int (nI (i21 + 1))), (8, .int z22), (7, .int z21), (0, .ref h0), (1, .ref f), (2, .int (nI st)), (3, .int (nI hf)), (4, .long rt)]) hx hb dRG_gather_86 hl rfl (by decide) rfl (by decide) rfl (fun ls hl => ?_)
        refine lv_goto (tgt := 3) hx hb dRG_gather_89 (by decide) ?_
        exact ih21 (i21 + 1) s23 pl ls H locs (by omega) (by omega) hF hR (lv_sub hl [0, 3, 4, 5, 6, 7] rfl) hO hP hD hS
      · replace hR := hR.trans (if_neg h23)
        refine lv_iload hx hb dRG_gather_54 (lv_at hl 1 rfl) ?_
        refine lv_aload_n hx hb dRG_gather_56 rfl (lv_at hl 3 rfl) ?_
        refine nw_get (C := "LatticeKeys$Ring") (TT := T_RG) (N := 4) hx hb hts (wg_ft i_RG) hown hK hO k_h0 (kn := 22) (ci := 4) (fl := [(1, 8380417), (1, 8), (1, 8347681), (3, 23)]) rfl hP rfl 0 (by decide) (hts _ (wg_t kw_91)) (fun _ h9 => h9) (cd := (1, 8380417)) rfl dRG_gather_57 (fun v24 hv24 => ?_)
        obtain rfl := (show v24 = .int (nI 8380417) from hv24)
        refine lv_isub hx hb dRG_gather_60 ?_
        refine lv_goto (tgt := 66) hx hb dRG_gather_61 (by decide) ?_
        refine nw_iast hx hb hK hO hU k_f (k := pf) n_f hP hD hS (by omega) (by omega) dRG_gather_66 (fun s24 pl H locs es23 hO hP hD hS => ?_)
        replace hR := bnd_step hR es23
        have hF := frm_sI hF es23 (by unfold M_RG_gather_8; omega)
        refine lv_aload_n hx hb dRG_gather_67 rfl (lv_at hl 4 rfl) ?_
        refine lv_iload hx hb dRG_gather_68 (lv_at hl 2 rfl) ?_
        refine lv_iload_n hx hb dRG_gather_70 rfl (lv_at hl 6 rfl) ?_
        refine mi_iadd hx hb dRG_gather_71 ?_
        refine lv_lload hx hb dRG_gather_72 (lv_at hl 7 rfl) ?_
        refine lv_iload hx hb dRG_gather_74 (lv_at hl 0 rfl) ?_
        refine lv_i2l hx hb dRG_gather_76 rfl ?_
        refine lv_lmul hx hb dRG_gather_77 ?_
        refine lv_aload_n hx hb dRG_gather_78 rfl (lv_at hl 3 rfl) ?_
        refine nw_get (C := "LatticeKeys$Ring") (TT := T_RG) (N := 4) hx hb hts (wg_ft i_RG) hown hK hO k_h0 (kn := 22) (ci := 4) (fl := [(1, 8380417), (1, 8), (1, 8347681), (3, 23)]) rfl hP rfl 0 (by decide) (hts _ (wg_t kw_91)) (fun _ h9 => h9) (cd := (1, 8380417)) rfl dRG_gather_79 (fun v25 hv25 => ?_)
        obtain rfl := (show v25 = .int (nI 8380417) from hv25)
        refine lv_i2l hx hb dRG_gather_82 rfl ?_
        refine lv_lrem hx hb dRG_gather_83 (by decide) ?_
        refine lv_l2i hx hb dRG_gather_84 rfl ?_
        refine nw_iast hx hb hK hO hU k_f (k := pf) n_f hP hD hS (by omega) (by omega) dRG_gather_85 (fun s25 pl H locs es24 hO hP hD hS => ?_)
        replace hR := bnd_step hR es24
        have hF := frm_sI hF es24 (by unfold M_RG_gather_8; omega)
        refine mi_iinc (k := 2) (x := i21) (d := 1) (y := i21 + 1) (lv' := [(6, .int (nI (i21 + 1))), (8, .int z22), (7, .int z21), (0, .ref h0), (1, .ref f), (2, .int (nI st)), (3, .int (nI hf)), (4, .long rt)]) hx hb dRG_gather_86 hl rfl (by decide) rfl (by decide) rfl (fun ls hl => ?_)
        refine lv_goto (tgt := 3) hx hb dRG_gather_89 (by decide) ?_
        exact ih21 (i21 + 1) s25 pl ls H locs (by omega) (by omega) hF hR (lv_sub hl [0, 3, 4, 5, 6, 7] rfl) hO hP hD hS
  exact lp21 ((st + hf) - st) st s pl ls _ _ (by omega) (by omega) hF hR (lv_sub hl [0, 1, 2, 3, 4, 5] rfl) hO hP hD hS
def M_RG_transform_7 (pf : Nat) (k : Nat) : Prop := k = pf ∨ (0 : Nat) = 1
noncomputable def F_RG_transform_7_L6 (pf : Nat) : Nat → Nat → Sto → Sto
  | 0, i27, s27 => s27
  | n27 + 1, i27, s27 => bnd (F_RG_spread_7 pf (4 * i27) 2 ((ctI 1 (64 + i27)).toInt64) s27) fun s28 => F_RG_transform_7_L6 pf n27 (i27 + 1) s28
noncomputable def F_RG_transform_7_L5 (pf : Nat) : Nat → Nat → Sto → Sto
  | 0, i26, s26 => F_RG_transform_7_L6 pf 64 0 s26
  | n26 + 1, i26, s26 => bnd (F_RG_spread_7 pf (8 * i26) 4 ((ctI 1 (32 + i26)).toInt64) s26) fun s29 => F_RG_transform_7_L5 pf n26 (i26 + 1) s29
noncomputable def F_RG_transform_7_L4 (pf : Nat) : Nat → Nat → Sto → Sto
  | 0, i25, s25 => F_RG_transform_7_L5 pf 32 0 s25
  | n25 + 1, i25, s25 => bnd (F_RG_spread_7 pf (16 * i25) 8 ((ctI 1 (16 + i25)).toInt64) s25) fun s30 => F_RG_transform_7_L4 pf n25 (i25 + 1) s30
noncomputable def F_RG_transform_7_L3 (pf : Nat) : Nat → Nat → Sto → Sto
  | 0, i24, s24 => F_RG_transform_7_L4 pf 16 0 s24
  | n24 + 1, i24, s24 => bnd (F_RG_spread_7 pf (32 * i24) 16 ((ctI 1 (8 + i24)).toInt64) s24) fun s31 => F_RG_transform_7_L3 pf n24 (i24 + 1) s31
noncomputable def F_RG_transform_7_L2 (pf : Nat) : Nat → Nat → Sto → Sto
  | 0, i23, s23 => F_RG_transform_7_L3 pf 8 0 s23
  | n23 + 1, i23, s23 => bnd (F_RG_spread_7 pf (64 * i23) 32 ((ctI 1 (4 + i23)).toInt64) s23) fun s32 => F_RG_transform_7_L2 pf n23 (i23 + 1) s32
noncomputable def F_RG_transform_7_L1 (pf : Nat) : Nat → Nat → Sto → Sto
  | 0, i22, s22 => F_RG_transform_7_L2 pf 4 0 s22
  | n22 + 1, i22, s22 => bnd (F_RG_spread_7 pf (128 * i22) 64 ((ctI 1 (2 + i22)).toInt64) s22) fun s33 => F_RG_transform_7_L1 pf n22 (i22 + 1) s33
noncomputable def F_RG_transform_7_L0 (pf : Nat) : Nat → Nat → Sto → Sto
  | 0, i21, s21 => F_RG_transform_7_L1 pf 2 0 s21
  | n21 + 1, i21, s21 => bnd (F_RG_spread_7 pf (256 * i21) 128 ((ctI 1 (1 + i21)).toInt64) s21) fun s34 => F_RG_transform_7_L0 pf n21 (i21 + 1) s34
noncomputable def F_RG_transform_7 (pf : Nat) (s : Sto) : Sto := F_RG_transform_7_L0 pf 1 0 s
set_option maxHeartbeats 400000 in
set_option maxRecDepth 100000 in
theorem N_RG_transform_7 (l : Launch) (g : Gd) (sz : Nat) (T : TyN) (s : Sto) (pl : va_W) (hO : okn g T s pl) (hU : inj T) (h0 f : Nat) (pf : Nat) (k_h0 : T h0 = some 20) (k_f : T f = some pf) (n_f : nsp pf = (0, 256, []))  : Met l y_RG_transform w_RG_transform ({ frames := 1, cells := 0, slots := 0, locals := 29 } : Room) (va_Pc [.ref h0, .ref f] (pr (en g) g.1 vcl sz ([] ++ pl))) (va_Qv (fun (u : (Sto) × va_W) => (u.1 = F_RG_transform_7 pf s ∧ frm (M_RG_transform_7 pf) s u.1 ∧ True) ∧ okn g T u.1 u.2) (po g.1 vcl (va_A ([] ++ pl) sz) (fun (u : (Sto) × va_W) => [] ++ u.2)) (va_A ([] ++ pl) sz)) 0 0 (va_A ([] ++ pl) sz) := by
  refine mc_entry (cc := c_RG_transform) (maxL := 6) (ret := none) (by decide) rfl (Nat.le_of_ble_eq_true rfl) ?_
  intro p e s0 m args below meth c ls F hr hlk hnm hsz hP hD hE hA hl
  obtain ⟨hx, hb, hml, hown, hts⟩ := id F
  have hK := hE.1
  generalize va_A ([] ++ pl) sz = A at hD hE hA ⊢
  have hS : va_S A s0.heap s0.heap [] := va_S.rf
  have hl : lv_has ls 6 [(0, .ref h0), (1, .ref f)] := hl
  have hR : F_RG_transform_7 pf s = F_RG_transform_7 pf s := rfl
  have hF : frm (M_RG_transform_7 pf) s s := frm_rf
  refine lv_iconst (v := nI 0) hx hb dRG_transform_0 (by decide) ?_
  refine lv_istore_n (lv' := [(2, .int (nI 0)), (0, .ref h0), (1, .ref f)]) hx hb dRG_transform_1 rfl hl (by decide) rfl (fun ls hl => ?_)
  refine lv_iload_n hx hb dRG_transform_2 rfl (lv_at hl 0 rfl) ?_
  refine lv_aload_n hx hb dRG_transform_3 rfl (lv_at hl 1 rfl) ?_
  refine nw_get (C := "LatticeKeys$Ring") (TT := T_RG) (N := 4) hx hb hts (wg_ft i_RG) hown hK hO k_h0 (kn := 20) (ci := 4) (fl := [(1, 3329), (1, 7), (1, 3303), (3, 21)]) rfl hP rfl 1 (by decide) (hts _ (wg_t kw_92)) (fun _ h9 => h9) (cd := (1, 7)) rfl dRG_transform_4 (fun v21 hv21 => ?_)
  obtain rfl := (show v21 = .int (nI 7) from hv21)
  refine mi_ge (tgt := 66) hx hb dRG_transform_7 (by decide) (by omega) (by omega) (fun h21 => absurd h21 (by omega)) (fun h21 => ?_)
  refine lv_iconst (v := nI 1) hx hb dRG_transform_10 (by decide) ?_
  refine lv_iload_n hx hb dRG_transform_11 rfl (lv_at hl 0 rfl) ?_
  refine mi_ishl hx hb dRG_transform_12 (by decide) (by decide) ?_
  refine mi_as (show nI (1 * 2 ^ 0) = nI 1 from rfl) ?_
  refine lv_istore_n (lv' := [(3, .int (nI 1)), (2, .int (nI 0)), (0, .ref h0), (1, .ref f)]) hx hb dRG_transform_13 rfl hl (by decide) rfl (fun ls hl => ?_)
  refine lv_sipush (v := nI 128) hx hb dRG_transform_14 (by decide) ?_
  refine lv_iload_n hx hb dRG_transform_17 rfl (lv_at hl 1 rfl) ?_
  refine mi_ishr hx hb dRG_transform_18 (by omega) (by decide) ?_
  refine mi_as (show nI (128 / 2 ^ 0) = nI (128) from rfl) ?_
  refine lv_istore (lv' := [(4, .int (nI 128)), (3, .int (nI 1)), (2, .int (nI 0)), (0, .ref h0), (1, .ref f)]) hx hb dRG_transform_19 hl (by decide) rfl (fun ls hl => ?_)
  refine lv_iconst (v := nI 0) hx hb dRG_transform_21 (by decide) ?_
  refine lv_istore (lv' := [(5, .int (nI 0)), (4, .int (nI 128)), (3, .int (nI 1)), (2, .int (nI 0)), (0, .ref h0), (1, .ref f)]) hx hb dRG_transform_22 hl (by decide) rfl (fun ls hl => ?_)
  have lp21 : ∀ (n21 : Nat) (i21 : Nat) (s21 : Sto) (pl : va_W) (ls : Array Slot) (H : Heap) (locs : List Loc), n21 + i21 = 1 → frm (M_RG_transform_7 pf) s s21 → F_RG_transform_7 pf s = F_RG_transform_7_L0 pf n21 i21 s21 → lv_has ls 6 [(5, .int (nI i21)), (4, .int (nI 128)), (3, .int (nI 1)), (2, .int (nI 0)), (0, .ref h0), (1, .ref f)] → okn g T s21 pl → va_P g.1 vcl ([] ++ pl) H → va_D A ([] ++ pl) → va_S A s0.heap H locs → W p l e ({ frames := 1, cells := 0, slots := 0, locals := 29 } : Room) s0 m args below meth c H locs 0 0 (MQ below (va_Qv (fun (u : (Sto) × va_W) => (u.1 = F_RG_transform_7 pf s ∧ frm (M_RG_transform_7 pf) s u.1 ∧ True) ∧ okn g T u.1 u.2) (po g.1 vcl A (fun (u : (Sto) × va_W) => [] ++ u.2)) A) args s0 0 0 A) (F0 m 24 ls []) := by
    intro n21
    induction n21 with
    | zero =>
      intro i21 s21 pl ls H locs hm21 hF hR hl hO hP hD hS
      refine lv_iload hx hb dRG_transform_24 (lv_at hl 0 rfl) ?_
      refine lv_iload_n hx hb dRG_transform_26 rfl (lv_at hl 2 rfl) ?_
      refine mi_ge (tgt := 60) hx hb dRG_transform_27 (by decide) (by omega) (by omega) (fun h22 => ?_) (fun h22 => absurd h22 (by omega))
      refine mi_iinc (k := 3) (x := 0) (d := 1) (y := 1) (lv' := [(2, .int (nI 1)), (5, .int (nI i21)), (4, .int (nI 128)), (3, .int (nI 1)), (0, .ref h0), (1, .ref f)]) hx hb dRG_transform_60 hl rfl (by decide) rfl (by decide) rfl (fun ls hl => ?_)
      refine lv_goto (tgt := 2) hx hb dRG_transform_63 (by decide) ?_
      refine lv_iload_n hx hb dRG_transform_2 rfl (lv_at hl 0 rfl) ?_
      refine lv_aload_n hx hb dRG_transform_3 rfl (lv_at hl 4 rfl) ?_
      refine nw_get (C := "LatticeKeys$Ring") (TT := T_RG) (N := 4) hx hb hts (wg_ft i_RG) hown hK hO k_h0 (kn := 20) (ci := 4) (fl := [(1, 3329), (1, 7), (1, 3303), (3, 21)]) rfl hP rfl 1 (by decide) (hts _ (wg_t kw_92)) (fun _ h9 => h9) (cd := (1, 7)) rfl dRG_transform_4 (fun v22 hv22 => ?_)
      obtain rfl := (show v22 = .int (nI 7) from hv22)
      refine mi_ge (tgt := 66) hx hb dRG_transform_7 (by decide) (by omega) (by omega) (fun h23 => absurd h23 (by omega)) (fun h23 => ?_)
      refine lv_iconst (v := nI 1) hx hb dRG_transform_10 (by decide) ?_
      refine lv_iload_n hx hb dRG_transform_11 rfl (lv_at hl 0 rfl) ?_
      refine mi_ishl hx hb dRG_transform_12 (by decide) (by decide) ?_
      refine mi_as (show nI (1 * 2 ^ 1) = nI 2 from rfl) ?_
      refine lv_istore_n (lv' := [(3, .int (nI 2)), (2, .int (nI 1)), (5, .int (nI i21)), (4, .int (nI 128)), (0, .ref h0), (1, .ref f)]) hx hb dRG_transform_13 rfl hl (by decide) rfl (fun ls hl => ?_)
      refine lv_sipush (v := nI 128) hx hb dRG_transform_14 (by decide) ?_
      refine lv_iload_n hx hb dRG_transform_17 rfl (lv_at hl 1 rfl) ?_
      refine mi_ishr hx hb dRG_transform_18 (by omega) (by decide) ?_
      refine mi_as (show nI (128 / 2 ^ 1) = nI (64) from rfl) ?_
      refine lv_istore (lv' := [(4, .int (nI 64)), (3, .int (nI 2)), (2, .int (nI 1)), (5, .int (nI i21)), (0, .ref h0), (1, .ref f)]) hx hb dRG_transform_19 hl (by decide) rfl (fun ls hl => ?_)
      refine lv_iconst (v := nI 0) hx hb dRG_transform_21 (by decide) ?_
      refine lv_istore (lv' := [(5, .int (nI 0)), (4, .int (nI 64)), (3, .int (nI 2)), (2, .int (nI 1)), (0, .ref h0), (1, .ref f)]) hx hb dRG_transform_22 hl (by decide) rfl (fun ls hl => ?_)
      have lp22 : ∀ (n22 : Nat) (i22 : Nat) (s22 : Sto) (pl : va_W) (ls : Array Slot) (H : Heap) (locs : List Loc), n22 + i22 = 2 → frm (M_RG_transform_7 pf) s s22 → F_RG_transform_7 pf s = F_RG_transform_7_L1 pf n22 i22 s22 → lv_has ls 6 [(5, .int (nI i22)), (4, .int (nI 64)), (3, .int (nI 2)), (2, .int (nI 1)), (0, .ref h0), (1, .ref f)] → okn g T s22 pl → va_P g.1 vcl ([] ++ pl) H → va_D A ([] ++ pl) → va_S A s0.heap H locs → W p l e ({ frames := 1, cells := 0, slots := 0, locals := 29 } : Room) s0 m args below meth c H locs 0 0 (MQ below (va_Qv (fun (u : (Sto) × va_W) => (u.1 = F_RG_transform_7 pf s ∧ frm (M_RG_transform_7 pf) s u.1 ∧ True) ∧ okn g T u.1 u.2) (po g.1 vcl A (fun (u : (Sto) × va_W) => [] ++ u.2)) A) args s0 0 0 A) (F0 m 24 ls []) := by
        intro n22
        induction n22 with
        | zero =>
          intro i22 s22 pl ls H locs hm22 hF hR hl hO hP hD hS
          refine lv_iload hx hb dRG_transform_24 (lv_at hl 0 rfl) ?_
          refine lv_iload_n hx hb dRG_transform_26 rfl (lv_at hl 2 rfl) ?_
          refine mi_ge (tgt := 60) hx hb dRG_transform_27 (by decide) (by omega) (by omega) (fun h24 => ?_) (fun h24 => absurd h24 (by omega))
          refine mi_iinc (k := 3) (x := 1) (d := 1) (y := 2) (lv' := [(2, .int (nI 2)), (5, .int (nI i22)), (4, .int (nI 64)), (3, .int (nI 2)), (0, .ref h0), (1, .ref f)]) hx hb dRG_transform_60 hl rfl (by decide) rfl (by decide) rfl (fun ls hl => ?_)
          refine lv_goto (tgt := 2) hx hb dRG_transform_63 (by decide) ?_
          refine lv_iload_n hx hb dRG_transform_2 rfl (lv_at hl 0 rfl) ?_
          refine lv_aload_n hx hb dRG_transform_3 rfl (lv_at hl 4 rfl) ?_
          refine nw_get (C := "LatticeKeys$Ring") (TT := T_RG) (N := 4) hx hb hts (wg_ft i_RG) hown hK hO k_h0 (kn := 20) (ci := 4) (fl := [(1, 3329), (1, 7), (1, 3303), (3, 21)]) rfl hP rfl 1 (by decide) (hts _ (wg_t kw_92)) (fun _ h9 => h9) (cd := (1, 7)) rfl dRG_transform_4 (fun v23 hv23 => ?_)
          obtain rfl := (show v23 = .int (nI 7) from hv23)
          refine mi_ge (tgt := 66) hx hb dRG_transform_7 (by decide) (by omega) (by omega) (fun h25 => absurd h25 (by omega)) (fun h25 => ?_)
          refine lv_iconst (v := nI 1) hx hb dRG_transform_10 (by decide) ?_
          refine lv_iload_n hx hb dRG_transform_11 rfl (lv_at hl 0 rfl) ?_
          refine mi_ishl hx hb dRG_transform_12 (by decide) (by decide) ?_
          refine mi_as (show nI (1 * 2 ^ 2) = nI 4 from rfl) ?_
          refine lv_istore_n (lv' := [(3, .int (nI 4)), (2, .int (nI 2)), (5, .int (nI i22)), (4, .int (nI 64)), (0, .ref h0), (1, .ref f)]) hx hb dRG_transform_13 rfl hl (by decide) rfl (fun ls hl => ?_)
          refine lv_sipush (v := nI 128) hx hb dRG_transform_14 (by decide) ?_
          refine lv_iload_n hx hb dRG_transform_17 rfl (lv_at hl 1 rfl) ?_
          refine mi_ishr hx hb dRG_transform_18 (by omega) (by decide) ?_
          refine mi_as (show nI (128 / 2 ^ 2) = nI (32) from rfl) ?_
          refine lv_istore (lv' := [(4, .int (nI 32)), (3, .int (nI 4)), (2, .int (nI 2)), (5, .int (nI i22)), (0, .ref h0), (1, .ref f)]) hx hb dRG_transform_19 hl (by decide) rfl (fun ls hl => ?_)
          refine lv_iconst (v := nI 0) hx hb dRG_transform_21 (by decide) ?_
          refine lv_istore (lv' := [(5, .int (nI 0)), (4, .int (nI 32)), (3, .int (nI 4)), (2, .int (nI 2)), (0, .ref h0), (1, .ref f)]) hx hb dRG_transform_22 hl (by decide) rfl (fun ls hl => ?_)
          have lp23 : ∀ (n23 : Nat) (i23 : Nat) (s23 : Sto) (pl : va_W) (ls : Array Slot) (H : Heap) (locs : List Loc), n23 + i23 = 4 → frm (M_RG_transform_7 pf) s s23 → F_RG_transform_7 pf s = F_RG_transform_7_L2 pf n23 i23 s23 → lv_has ls 6 [(5, .int (nI i23)), (4, .int (nI 32)), (3, .int (nI 4)), (2, .int (nI 2)), (0, .ref h0), (1, .ref f)] → okn g T s23 pl → va_P g.1 vcl ([] ++ pl) H → va_D A ([] ++ pl) → va_S A s0.heap H locs → W p l e ({ frames := 1, cells := 0, slots := 0, locals := 29 } : Room) s0 m args below meth c H locs 0 0 (MQ below (va_Qv (fun (u : (Sto) × va_W) => (u.1 = F_RG_transform_7 pf s ∧ frm (M_RG_transform_7 pf) s u.1 ∧ True) ∧ okn g T u.1 u.2) (po g.1 vcl A (fun (u : (Sto) × va_W) => [] ++ u.2)) A) args s0 0 0 A) (F0 m 24 ls []) := by
            intro n23
            induction n23 with
            | zero =>
              intro i23 s23 pl ls H locs hm23 hF hR hl hO hP hD hS
              refine lv_iload hx hb dRG_transform_24 (lv_at hl 0 rfl) ?_
              refine lv_iload_n hx hb dRG_transform_26 rfl (lv_at hl 2 rfl) ?_
              refine mi_ge (tgt := 60) hx hb dRG_transform_27 (by decide) (by omega) (by omega) (fun h26 => ?_) (fun h26 => absurd h26 (by omega))
              refine mi_iinc (k := 3) (x := 2) (d := 1) (y := 3) (lv' := [(2, .int (nI 3)), (5, .int (nI i23)), (4, .int (nI 32)), (3, .int (nI 4)), (0, .ref h0), (1, .ref f)]) hx hb dRG_transform_60 hl rfl (by decide) rfl (by decide) rfl (fun ls hl => ?_)
              refine lv_goto (tgt := 2) hx hb dRG_transform_63 (by decide) ?_
              refine lv_iload_n hx hb dRG_transform_2 rfl (lv_at hl 0 rfl) ?_
              refine lv_aload_n hx hb dRG_transform_3 rfl (lv_at hl 4 rfl) ?_
              refine nw_get (C := "LatticeKeys$Ring") (TT := T_RG) (N := 4) hx hb hts (wg_ft i_RG) hown hK hO k_h0 (kn := 20) (ci := 4) (fl := [(1, 3329), (1, 7), (1, 3303), (3, 21)]) rfl hP rfl 1 (by decide) (hts _ (wg_t kw_92)) (fun _ h9 => h9) (cd := (1, 7)) rfl dRG_transform_4 (fun v24 hv24 => ?_)
              obtain rfl := (show v24 = .int (nI 7) from hv24)
              refine mi_ge (tgt := 66) hx hb dRG_transform_7 (by decide) (by omega) (by omega) (fun h27 => absurd h27 (by omega)) (fun h27 => ?_)
              refine lv_iconst (v := nI 1) hx hb dRG_transform_10 (by decide) ?_
              refine lv_iload_n hx hb dRG_transform_11 rfl (lv_at hl 0 rfl) ?_
              refine mi_ishl hx hb dRG_transform_12 (by decide) (by decide) ?_
              refine mi_as (show nI (1 * 2 ^ 3) = nI 8 from rfl) ?_
              refine lv_istore_n (lv' := [(3, .int (nI 8)), (2, .int (nI 3)), (5, .int (nI i23)), (4, .int (nI 32)), (0, .ref h0), (1, .ref f)]) hx hb dRG_transform_13 rfl hl (by decide) rfl (fun ls hl => ?_)
              refine lv_sipush (v := nI 128) hx hb dRG_transform_14 (by decide) ?_
              refine lv_iload_n hx hb dRG_transform_17 rfl (lv_at hl 1 rfl) ?_
              refine mi_ishr hx hb dRG_transform_18 (by omega) (by decide) ?_
              refine mi_as (show nI (128 / 2 ^ 3) = nI (16) from rfl) ?_
              refine lv_istore (lv' := [(4, .int (nI 16)), (3, .int (nI 8)), (2, .int (nI 3)), (5, .int (nI i23)), (0, .ref h0), (1, .ref f)]) hx hb dRG_transform_19 hl (by decide) rfl (fun ls hl => ?_)
              refine lv_iconst (v := nI 0) hx hb dRG_transform_21 (by decide) ?_
              refine lv_istore (lv' := [(5, .int (nI 0)), (4, .int (nI 16)), (3, .int (nI 8)), (2, .int (nI 3)), (0, .ref h0), (1, .ref f)]) hx hb dRG_transform_22 hl (by decide) rfl (fun ls hl => ?_)
              have lp24 : ∀ (n24 : Nat) (i24 : Nat) (s24 : Sto) (pl : va_W) (ls : Array Slot) (H : Heap) (locs : List Loc), n24 + i24 = 8 → frm (M_RG_transform_7 pf) s s24 → F_RG_transform_7 pf s = F_RG_transform_7_L3 pf n24 i24 s24 → lv_has ls 6 [(5, .int (nI i24)), (4, .int (nI 16)), (3, .int (nI 8)), (2, .int (nI 3)), (0, .ref h0), (1, .ref f)] → okn g T s24 pl → va_P g.1 vcl ([] ++ pl) H → va_D A ([] ++ pl) → va_S A s0.heap H locs → W p l e ({ frames := 1, cells := 0, slots := 0, locals := 29 } : Room) s0 m args below meth c H locs 0 0 (MQ below (va_Qv (fun (u : (Sto) × va_W) => (u.1 = F_RG_transform_7 pf s ∧ frm (M_RG_transform_7 pf) s u.1 ∧ True) ∧ okn g T u.1 u.2) (po g.1 vcl A (fun (u : (Sto) × va_W) => [] ++ u.2)) A) args s0 0 0 A) (F0 m 24 ls []) := by
                intro n24
                induction n24 with
                | zero =>
                  intro i24 s24 pl ls H locs hm24 hF hR hl hO hP hD hS
                  refine lv_iload hx hb dRG_transform_24 (lv_at hl 0 rfl) ?_
                  refine lv_iload_n hx hb dRG_transform_26 rfl (lv_at hl 2 rfl) ?_
                  refine mi_ge (tgt := 60) hx hb dRG_transform_27 (by decide) (by omega) (by omega) (fun h28 => ?_) (fun h28 => absurd h28 (by omega))
                  refine mi_iinc (k := 3) (x := 3) (d := 1) (y := 4) (lv' := [(2, .int (nI 4)), (5, .int (nI i24)), (4, .int (nI 16)), (3, .int (nI 8)), (0, .ref h0), (1, .ref f)]) hx hb dRG_transform_60 hl rfl (by decide) rfl (by decide) rfl (fun ls hl => ?_)
                  refine lv_goto (tgt := 2) hx hb dRG_transform_63 (by decide) ?_
                  refine lv_iload_n hx hb dRG_transform_2 rfl (lv_at hl 0 rfl) ?_
                  refine lv_aload_n hx hb dRG_transform_3 rfl (lv_at hl 4 rfl) ?_
                  refine nw_get (C := "LatticeKeys$Ring") (TT := T_RG) (N := 4) hx hb hts (wg_ft i_RG) hown hK hO k_h0 (kn := 20) (ci := 4) (fl := [(1, 3329), (1, 7), (1, 3303), (3, 21)]) rfl hP rfl 1 (by decide) (hts _ (wg_t kw_92)) (fun _ h9 => h9) (cd := (1, 7)) rfl dRG_transform_4 (fun v25 hv25 => ?_)
                  obtain rfl := (show v25 = .int (nI 7) from hv25)
                  refine mi_ge (tgt := 66) hx hb dRG_transform_7 (by decide) (by omega) (by omega) (fun h29 => absurd h29 (by omega)) (fun h29 => ?_)
                  refine lv_iconst (v := nI 1) hx hb dRG_transform_10 (by decide) ?_
                  refine lv_iload_n hx hb dRG_transform_11 rfl (lv_at hl 0 rfl) ?_
                  refine mi_ishl hx hb dRG_transform_12 (by decide) (by decide) ?_
                  refine mi_as (show nI (1 * 2 ^ 4) = nI 16 from rfl) ?_
                  refine lv_istore_n (lv' := [(3, .int (nI 16)), (2, .int (nI 4)), (5, .int (nI i24)), (4, .int (nI 16)), (0, .ref h0), (1, .ref f)]) hx hb dRG_transform_13 rfl hl (by decide) rfl (fun ls hl => ?_)
                  refine lv_sipush (v := nI 128) hx hb dRG_transform_14 (by decide) ?_
                  refine lv_iload_n hx hb dRG_transform_17 rfl (lv_at hl 1 rfl) ?_
                  refine mi_ishr hx hb dRG_transform_18 (by omega) (by decide) ?_
                  refine mi_as (show nI (128 / 2 ^ 4) = nI (8) from rfl) ?_
                  refine lv_istore (lv' := [(4, .int (nI 8)), (3, .int (nI 16)), (2, .int (nI 4)), (5, .int (nI i24)), (0, .ref h0), (1, .ref f)]) hx hb dRG_transform_19 hl (by decide) rfl (fun ls hl => ?_)
                  refine lv_iconst (v := nI 0) hx hb dRG_transform_21 (by decide) ?_
                  refine lv_istore (lv' := [(5, .int (nI 0)), (4, .int (nI 8)), (3, .int (nI 16)), (2, .int (nI 4)), (0, .ref h0), (1, .ref f)]) hx hb dRG_transform_22 hl (by decide) rfl (fun ls hl => ?_)
                  have lp25 : ∀ (n25 : Nat) (i25 : Nat) (s25 : Sto) (pl : va_W) (ls : Array Slot) (H : Heap) (locs : List Loc), n25 + i25 = 16 → frm (M_RG_transform_7 pf) s s25 → F_RG_transform_7 pf s = F_RG_transform_7_L4 pf n25 i25 s25 → lv_has ls 6 [(5, .int (nI i25)), (4, .int (nI 8)), (3, .int (nI 16)), (2, .int (nI 4)), (0, .ref h0), (1, .ref f)] → okn g T s25 pl → va_P g.1 vcl ([] ++ pl) H → va_D A ([] ++ pl) → va_S A s0.heap H locs → W p l e ({ frames := 1, cells := 0, slots := 0, locals := 29 } : Room) s0 m args below meth c H locs 0 0 (MQ below (va_Qv (fun (u : (Sto) × va_W) => (u.1 = F_RG_transform_7 pf s ∧ frm (M_RG_transform_7 pf) s u.1 ∧ True) ∧ okn g T u.1 u.2) (po g.1 vcl A (fun (u : (Sto) × va_W) => [] ++ u.2)) A) args s0 0 0 A) (F0 m 24 ls []) := by
                    intro n25
                    induction n25 with
                    | zero =>
                      intro i25 s25 pl ls H locs hm25 hF hR hl hO hP hD hS
                      refine lv_iload hx hb dRG_transform_24 (lv_at hl 0 rfl) ?_
                      refine lv_iload_n hx hb dRG_transform_26 rfl (lv_at hl 2 rfl) ?_
                      refine mi_ge (tgt := 60) hx hb dRG_transform_27 (by decide) (by omega) (by omega) (fun h30 => ?_) (fun h30 => absurd h30 (by omega))
                      refine mi_iinc (k := 3) (x := 4) (d := 1) (y := 5) (lv' := [(2, .int (nI 5)), (5, .int (nI i25)), (4, .int (nI 8)), (3, .int (nI 16)), (0, .ref h0), (1, .ref f)]) hx hb dRG_transform_60 hl rfl (by decide) rfl (by decide) rfl (fun ls hl => ?_)
                      refine lv_goto (tgt := 2) hx hb dRG_transform_63 (by decide) ?_
                      refine lv_iload_n hx hb dRG_transform_2 rfl (lv_at hl 0 rfl) ?_
                      refine lv_aload_n hx hb dRG_transform_3 rfl (lv_at hl 4 rfl) ?_
                      refine nw_get (C := "LatticeKeys$Ring") (TT := T_RG) (N := 4) hx hb hts (wg_ft i_RG) hown hK hO k_h0 (kn := 20) (ci := 4) (fl := [(1, 3329), (1, 7), (1, 3303), (3, 21)]) rfl hP rfl 1 (by decide) (hts _ (wg_t kw_92)) (fun _ h9 => h9) (cd := (1, 7)) rfl dRG_transform_4 (fun v26 hv26 => ?_)
                      obtain rfl := (show v26 = .int (nI 7) from hv26)
                      refine mi_ge (tgt := 66) hx hb dRG_transform_7 (by decide) (by omega) (by omega) (fun h31 => absurd h31 (by omega)) (fun h31 => ?_)
                      refine lv_iconst (v := nI 1) hx hb dRG_transform_10 (by decide) ?_
                      refine lv_iload_n hx hb dRG_transform_11 rfl (lv_at hl 0 rfl) ?_
                      refine mi_ishl hx hb dRG_transform_12 (by decide) (by decide) ?_
                      refine mi_as (show nI (1 * 2 ^ 5) = nI 32 from rfl) ?_
                      refine lv_istore_n (lv' := [(3, .int (nI 32)), (2, .int (nI 5)), (5, .int (nI i25)), (4, .int (nI 8)), (0, .ref h0), (1, .ref f)]) hx hb dRG_transform_13 rfl hl (by decide) rfl (fun ls hl => ?_)
                      refine lv_sipush (v := nI 128) hx hb dRG_transform_14 (by decide) ?_
                      refine lv_iload_n hx hb dRG_transform_17 rfl (lv_at hl 1 rfl) ?_
                      refine mi_ishr hx hb dRG_transform_18 (by omega) (by decide) ?_
                      refine mi_as (show nI (128 / 2 ^ 5) = nI (4) from rfl) ?_
                      refine lv_istore (lv' := [(4, .int (nI 4)), (3, .int (nI 32)), (2, .int (nI 5)), (5, .int (nI i25)), (0, .ref h0), (1, .ref f)]) hx hb dRG_transform_19 hl (by decide) rfl (fun ls hl => ?_)
                      refine lv_iconst (v := nI 0) hx hb dRG_transform_21 (by decide) ?_
                      refine lv_istore (lv' := [(5, .int (nI 0)), (4, .int (nI 4)), (3, .int (nI 32)), (2, .int (nI 5)), (0, .ref h0), (1, .ref f)]) hx hb dRG_transform_22 hl (by decide) rfl (fun ls hl => ?_)
                      have lp26 : ∀ (n26 : Nat) (i26 : Nat) (s26 : Sto) (pl : va_W) (ls : Array Slot) (H : Heap) (locs : List Loc), n26 + i26 = 32 → frm (M_RG_transform_7 pf) s s26 → F_RG_transform_7 pf s = F_RG_transform_7_L5 pf n26 i26 s26 → lv_has ls 6 [(5, .int (nI i26)), (4, .int (nI 4)), (3, .int (nI 32)), (2, .int (nI 5)), (0, .ref h0), (1, .ref f)] → okn g T s26 pl → va_P g.1 vcl ([] ++ pl) H → va_D A ([] ++ pl) → va_S A s0.heap H locs → W p l e ({ frames := 1, cells := 0, slots := 0, locals := 29 } : Room) s0 m args below meth c H locs 0 0 (MQ below (va_Qv (fun (u : (Sto) × va_W) => (u.1 = F_RG_transform_7 pf s ∧ frm (M_RG_transform_7 pf) s u.1 ∧ True) ∧ okn g T u.1 u.2) (po g.1 vcl A (fun (u : (Sto) × va_W) => [] ++ u.2)) A) args s0 0 0 A) (F0 m 24 ls []) := by
                        intro n26
                        induction n26 with
                        | zero =>
                          intro i26 s26 pl ls H locs hm26 hF hR hl hO hP hD hS
                          refine lv_iload hx hb dRG_transform_24 (lv_at hl 0 rfl) ?_
                          refine lv_iload_n hx hb dRG_transform_26 rfl (lv_at hl 2 rfl) ?_
                          refine mi_ge (tgt := 60) hx hb dRG_transform_27 (by decide) (by omega) (by omega) (fun h32 => ?_) (fun h32 => absurd h32 (by omega))
                          refine mi_iinc (k := 3) (x := 5) (d := 1) (y := 6) (lv' := [(2, .int (nI 6)), (5, .int (nI i26)), (4, .int (nI 4)), (3, .int (nI 32)), (0, .ref h0), (1, .ref f)]) hx hb dRG_transform_60 hl rfl (by decide) rfl (by decide) rfl (fun ls hl => ?_)
                          refine lv_goto (tgt := 2) hx hb dRG_transform_63 (by decide) ?_
                          refine lv_iload_n hx hb dRG_transform_2 rfl (lv_at hl 0 rfl) ?_
                          refine lv_aload_n hx hb dRG_transform_3 rfl (lv_at hl 4 rfl) ?_
                          refine nw_get (C := "LatticeKeys$Ring") (TT := T_RG) (N := 4) hx hb hts (wg_ft i_RG) hown hK hO k_h0 (kn := 20) (ci := 4) (fl := [(1, 3329), (1, 7), (1, 3303), (3, 21)]) rfl hP rfl 1 (by decide) (hts _ (wg_t kw_92)) (fun _ h9 => h9) (cd := (1, 7)) rfl dRG_transform_4 (fun v27 hv27 => ?_)
                          obtain rfl := (show v27 = .int (nI 7) from hv27)
                          refine mi_ge (tgt := 66) hx hb dRG_transform_7 (by decide) (by omega) (by omega) (fun h33 => absurd h33 (by omega)) (fun h33 => ?_)
                          refine lv_iconst (v := nI 1) hx hb dRG_transform_10 (by decide) ?_
                          refine lv_iload_n hx hb dRG_transform_11 rfl (lv_at hl 0 rfl) ?_
                          refine mi_ishl hx hb dRG_transform_12 (by decide) (by decide) ?_
                          refine mi_as (show nI (1 * 2 ^ 6) = nI 64 from rfl) ?_
                          refine lv_istore_n (lv' := [(3, .int (nI 64)), (2, .int (nI 6)), (5, .int (nI i26)), (4, .int (nI 4)), (0, .ref h0), (1, .ref f)]) hx hb dRG_transform_13 rfl hl (by decide) rfl (fun ls hl => ?_)
                          refine lv_sipush (v := nI 128) hx hb dRG_transform_14 (by decide) ?_
                          refine lv_iload_n hx hb dRG_transform_17 rfl (lv_at hl 1 rfl) ?_
                          refine mi_ishr hx hb dRG_transform_18 (by omega) (by decide) ?_
                          refine mi_as (show nI (128 / 2 ^ 6) = nI (2) from rfl) ?_
                          refine lv_istore (lv' := [(4, .int (nI 2)), (3, .int (nI 64)), (2, .int (nI 6)), (5, .int (nI i26)), (0, .ref h0), (1, .ref f)]) hx hb dRG_transform_19 hl (by decide) rfl (fun ls hl => ?_)
                          refine lv_iconst (v := nI 0) hx hb dRG_transform_21 (by decide) ?_
                          refine lv_istore (lv' := [(5, .int (nI 0)), (4, .int (nI 2)), (3, .int (nI 64)), (2, .int (nI 6)), (0, .ref h0), (1, .ref f)]) hx hb dRG_transform_22 hl (by decide) rfl (fun ls hl => ?_)
                          have lp27 : ∀ (n27 : Nat) (i27 : Nat) (s27 : Sto) (pl : va_W) (ls : Array Slot) (H : Heap) (locs : List Loc), n27 + i27 = 64 → frm (M_RG_transform_7 pf) s s27 → F_RG_transform_7 pf s = F_RG_transform_7_L6 pf n27 i27 s27 → lv_has ls 6 [(5, .int (nI i27)), (4, .int (nI 2)), (3, .int (nI 64)), (2, .int (nI 6)), (0, .ref h0), (1, .ref f)] → okn g T s27 pl → va_P g.1 vcl ([] ++ pl) H → va_D A ([] ++ pl) → va_S A s0.heap H locs → W p l e ({ frames := 1, cells := 0, slots := 0, locals := 29 } : Room) s0 m args below meth c H locs 0 0 (MQ below (va_Qv (fun (u : (Sto) × va_W) => (u.1 = F_RG_transform_7 pf s ∧ frm (M_RG_transform_7 pf) s u.1 ∧ True) ∧ okn g T u.1 u.2) (po g.1 vcl A (fun (u : (Sto) × va_W) => [] ++ u.2)) A) args s0 0 0 A) (F0 m 24 ls []) := by
                            intro n27
                            induction n27 with
                            | zero =>
                              intro i27 s27 pl ls H locs hm27 hF hR hl hO hP hD hS
                              refine lv_iload hx hb dRG_transform_24 (lv_at hl 0 rfl) ?_
                              refine lv_iload_n hx hb dRG_transform_26 rfl (lv_at hl 2 rfl) ?_
                              refine mi_ge (tgt := 60) hx hb dRG_transform_27 (by decide) (by omega) (by omega) (fun h34 => ?_) (fun h34 => absurd h34 (by omega))
                              refine mi_iinc (k := 3) (x := 6) (d := 1) (y := 7) (lv' := [(2, .int (nI 7)), (5, .int (nI i27)), (4, .int (nI 2)), (3, .int (nI 64)), (0, .ref h0), (1, .ref f)]) hx hb dRG_transform_60 hl rfl (by decide) rfl (by decide) rfl (fun ls hl => ?_)
                              refine lv_goto (tgt := 2) hx hb dRG_transform_63 (by decide) ?_
                              refine lv_iload_n hx hb dRG_transform_2 rfl (lv_at hl 0 rfl) ?_
                              refine lv_aload_n hx hb dRG_transform_3 rfl (lv_at hl 4 rfl) ?_
                              refine nw_get (C := "LatticeKeys$Ring") (TT := T_RG) (N := 4) hx hb hts (wg_ft i_RG) hown hK hO k_h0 (kn := 20) (ci := 4) (fl := [(1, 3329), (1, 7), (1, 3303), (3, 21)]) rfl hP rfl 1 (by decide) (hts _ (wg_t kw_92)) (fun _ h9 => h9) (cd := (1, 7)) rfl dRG_transform_4 (fun v28 hv28 => ?_)
                              obtain rfl := (show v28 = .int (nI 7) from hv28)
                              refine mi_ge (tgt := 66) hx hb dRG_transform_7 (by decide) (by omega) (by omega) (fun h35 => ?_) (fun h35 => absurd h35 (by omega))
                              exact mp_vret hx hb hr hlk hP hD hS (s27, pl) ⟨⟨hR.symm, hF, trivial⟩, hO⟩ [] rfl rfl rfl (by omega) (by omega) dRG_transform_66
                            | succ n27 ih27 =>
                              intro i27 s27 pl ls H locs hm27 hF hR hl hO hP hD hS
                              refine lv_iload hx hb dRG_transform_24 (lv_at hl 0 rfl) ?_
                              refine lv_iload_n hx hb dRG_transform_26 rfl (lv_at hl 2 rfl) ?_
                              refine mi_ge (tgt := 60) hx hb dRG_transform_27 (by decide) (by omega) (by omega) (fun h36 => absurd h36 (by omega)) (fun h36 => ?_)
                              refine lv_aload_n hx hb dRG_transform_30 rfl (lv_at hl 4 rfl) ?_
                              refine lv_aload_n hx hb dRG_transform_31 rfl (lv_at hl 5 rfl) ?_
                              refine lv_iconst (v := nI 2) hx hb dRG_transform_32 (by decide) ?_
                              refine lv_iload hx hb dRG_transform_33 (lv_at hl 1 rfl) ?_
                              refine mi_imul hx hb dRG_transform_35 ?_
                              refine mi_as (show nI (2 * 2) = nI 4 from rfl) ?_
                              refine lv_iload hx hb dRG_transform_36 (lv_at hl 0 rfl) ?_
                              refine mi_imul hx hb dRG_transform_38 ?_
                              refine lv_iload hx hb dRG_transform_39 (lv_at hl 1 rfl) ?_
                              refine lv_aload_n hx hb dRG_transform_41 rfl (lv_at hl 4 rfl) ?_
                              refine nw_get (C := "LatticeKeys$Ring") (TT := T_RG) (N := 4) hx hb hts (wg_ft i_RG) hown hK hO k_h0 (kn := 20) (ci := 4) (fl := [(1, 3329), (1, 7), (1, 3303), (3, 21)]) rfl hP rfl 3 (by decide) (hts _ (wg_t kw_94)) (fun _ h9 => h9) (cd := (3, 21)) rfl dRG_transform_42 (fun v29 hv29 => ?_)
                              obtain ⟨r21, rfl, kr21⟩ := (show ∃ r : Nat, v29 = .ref r ∧ T r = some 21 from hv29)
                              refine lv_iload_n hx hb dRG_transform_45 rfl (lv_at hl 2 rfl) ?_
                              refine lv_iload hx hb dRG_transform_46 (lv_at hl 0 rfl) ?_
                              refine mi_iadd hx hb dRG_transform_48 ?_
                              refine nw_ialdT hx hb hK hO kr21 (k := 21) (d := 1) rfl hP (by omega) (by omega) dRG_transform_49 ?_
                              refine lv_i2l hx hb dRG_transform_50 rfl ?_
                              refine mp_v (cx := []) (wr := []) hP hD hS hA [] [] rfl rfl rfl (by decide) (va_runV (As := [.ref f, .int (nI (4 * i27)), .int (nI 2), .long ((ctI 1 (64 + i27)).toInt64)]) (rest := []) F (N_RG_spread_7 l g _ T s27 pl hO hU h0 f pf (4 * i27) 2 ((ctI 1 (64 + i27)).toInt64) k_h0 k_f n_f (by omega)) (cwV 4 hts (wg_app (wg_c kw_640 (wg_c kw_642 (wg_c ks_7 (wg_c kw_4 wg_n)))) kw_643) rfl rfl rfl (by decide +kernel) ⟨by decide, by decide⟩) (pn_W "LatticeKeys$Ring" (en_ok g) (ci := 4) (kn := 20) (fl := [(1, 3329), (1, 7), (1, 3303), (3, 21)]) hK hO k_h0 rfl hP hD hS hA hE [] rfl rfl rfl) rfl rfl hl.1 rfl (lv_room (Nat.le_of_ble_eq_true rfl)) dRG_transform_51 ⟨by omega, by omega⟩) (fun  u21 H locs hu21 hP hD hS => ?_)
                              obtain ⟨s28, pl⟩ := u21
                              obtain ⟨⟨eq21, hFc21, -⟩, hO⟩ := hu21
                              have hO : okn g T s28 pl := hO
                              have hP : va_P g.1 vcl ([] ++ pl) _ := hP
                              have hD : va_D _ ([] ++ pl) := hD
                              have hFc21 : frm (M_RG_spread_7 pf) s27 s28 := hFc21
                              replace hR := bnd_step hR eq21
                              have hF := frm_tr hF hFc21 (fun k hk => by unfold M_RG_spread_7 at hk; unfold M_RG_transform_7; omega)
                              refine W.widen (k := 0) (n := 0) (by omega) (by omega) ?_
                              refine mi_iinc (k := 0) (x := i27) (d := 1) (y := i27 + 1) (lv' := [(5, .int (nI (i27 + 1))), (4, .int (nI 2)), (3, .int (nI 64)), (2, .int (nI 6)), (0, .ref h0), (1, .ref f)]) hx hb dRG_transform_54 hl rfl (by decide) rfl (by decide) rfl (fun ls hl => ?_)
                              refine lv_goto (tgt := 24) hx hb dRG_transform_57 (by decide) ?_
                              exact ih27 (i27 + 1) s28 pl ls H locs (by omega) hF hR (lv_sub hl [0, 1, 2, 3, 4, 5] rfl) hO hP hD hS
                          exact lp27 64 0 s26 pl ls _ _ (by omega) hF hR (lv_sub hl [0, 1, 2, 3, 4, 5] rfl) hO hP hD hS
                        | succ n26 ih26 =>
                          intro i26 s26 pl ls H locs hm26 hF hR hl hO hP hD hS
                          refine lv_iload hx hb dRG_transform_24 (lv_at hl 0 rfl) ?_
                          refine lv_iload_n hx hb dRG_transform_26 rfl (lv_at hl 2 rfl) ?_
                          refine mi_ge (tgt := 60) hx hb dRG_transform_27 (by decide) (by omega) (by omega) (fun h37 => absurd h37 (by omega)) (fun h37 => ?_)
                          refine lv_aload_n hx hb dRG_transform_30 rfl (lv_at hl 4 rfl) ?_
                          refine lv_aload_n hx hb dRG_transform_31 rfl (lv_at hl 5 rfl) ?_
                          refine lv_iconst (v := nI 2) hx hb dRG_transform_32 (by decide) ?_
                          refine lv_iload hx hb dRG_transform_33 (lv_at hl 1 rfl) ?_
                          refine mi_imul hx hb dRG_transform_35 ?_
                          refine mi_as (show nI (2 * 4) = nI 8 from rfl) ?_
                          refine lv_iload hx hb dRG_transform_36 (lv_at hl 0 rfl) ?_
                          refine mi_imul hx hb dRG_transform_38 ?_
                          refine lv_iload hx hb dRG_transform_39 (lv_at hl 1 rfl) ?_
                          refine lv_aload_n hx hb dRG_transform_41 rfl (lv_at hl 4 rfl) ?_
                          refine nw_get (C := "LatticeKeys$Ring") (TT := T_RG) (N := 4) hx hb hts (wg_ft i_RG) hown hK hO k_h0 (kn := 20) (ci := 4) (fl := [(1, 3329), (1, 7), (1, 3303), (3, 21)]) rfl hP rfl 3 (by decide) (hts _ (wg_t kw_94)) (fun _ h9 => h9) (cd := (3, 21)) rfl dRG_transform_42 (fun v30 hv30 => ?_)
                          obtain ⟨r22, rfl, kr22⟩ := (show ∃ r : Nat, v30 = .ref r ∧ T r = some 21 from hv30)
                          refine lv_iload_n hx hb dRG_transform_45 rfl (lv_at hl 2 rfl) ?_
                          refine lv_iload hx hb dRG_transform_46 (lv_at hl 0 rfl) ?_
                          refine mi_iadd hx hb dRG_transform_48 ?_
                          refine nw_ialdT hx hb hK hO kr22 (k := 21) (d := 1) rfl hP (by omega) (by omega) dRG_transform_49 ?_
                          refine lv_i2l hx hb dRG_transform_50 rfl ?_
                          refine mp_v (cx := []) (wr := []) hP hD hS hA [] [] rfl rfl rfl (by decide) (va_runV (As := [.ref f, .int (nI (8 * i26)), .int (nI 4), .long ((ctI 1 (32 + i26)).toInt64)]) (rest := []) F (N_RG_spread_7 l g _ T s26 pl hO hU h0 f pf (8 * i26) 4 ((ctI 1 (32 + i26)).toInt64) k_h0 k_f n_f (by omega)) (cwV 4 hts (wg_app (wg_c kw_640 (wg_c kw_642 (wg_c ks_7 (wg_c kw_4 wg_n)))) kw_643) rfl rfl rfl (by decide +kernel) ⟨by decide, by decide⟩) (pn_W "LatticeKeys$Ring" (en_ok g) (ci := 4) (kn := 20) (fl := [(1, 3329), (1, 7), (1, 3303), (3, 21)]) hK hO k_h0 rfl hP hD hS hA hE [] rfl rfl rfl) rfl rfl hl.1 rfl (lv_room (Nat.le_of_ble_eq_true rfl)) dRG_transform_51 ⟨by omega, by omega⟩) (fun  u22 H locs hu22 hP hD hS => ?_)
                          obtain ⟨s29, pl⟩ := u22
                          obtain ⟨⟨eq22, hFc22, -⟩, hO⟩ := hu22
                          have hO : okn g T s29 pl := hO
                          have hP : va_P g.1 vcl ([] ++ pl) _ := hP
                          have hD : va_D _ ([] ++ pl) := hD
                          have hFc22 : frm (M_RG_spread_7 pf) s26 s29 := hFc22
                          replace hR := bnd_step hR eq22
                          have hF := frm_tr hF hFc22 (fun k hk => by unfold M_RG_spread_7 at hk; unfold M_RG_transform_7; omega)
                          refine W.widen (k := 0) (n := 0) (by omega) (by omega) ?_
                          refine mi_iinc (k := 0) (x := i26) (d := 1) (y := i26 + 1) (lv' := [(5, .int (nI (i26 + 1))), (4, .int (nI 4)), (3, .int (nI 32)), (2, .int (nI 5)), (0, .ref h0), (1, .ref f)]) hx hb dRG_transform_54 hl rfl (by decide) rfl (by decide) rfl (fun ls hl => ?_)
                          refine lv_goto (tgt := 24) hx hb dRG_transform_57 (by decide) ?_
                          exact ih26 (i26 + 1) s29 pl ls H locs (by omega) hF hR (lv_sub hl [0, 1, 2, 3, 4, 5] rfl) hO hP hD hS
                      exact lp26 32 0 s25 pl ls _ _ (by omega) hF hR (lv_sub hl [0, 1, 2, 3, 4, 5] rfl) hO hP hD hS
                    | succ n25 ih25 =>
                      intro i25 s25 pl ls H locs hm25 hF hR hl hO hP hD hS
                      refine lv_iload hx hb dRG_transform_24 (lv_at hl 0 rfl) ?_
                      refine lv_iload_n hx hb dRG_transform_26 rfl (lv_at hl 2 rfl) ?_
                      refine mi_ge (tgt := 60) hx hb dRG_transform_27 (by decide) (by omega) (by omega) (fun h38 => absurd h38 (by omega)) (fun h38 => ?_)
                      refine lv_aload_n hx hb dRG_transform_30 rfl (lv_at hl 4 rfl) ?_
                      refine lv_aload_n hx hb dRG_transform_31 rfl (lv_at hl 5 rfl) ?_
                      refine lv_iconst (v := nI 2) hx hb dRG_transform_32 (by decide) ?_
                      refine lv_iload hx hb dRG_transform_33 (lv_at hl 1 rfl) ?_
                      refine mi_imul hx hb dRG_transform_35 ?_
                      refine mi_as (show nI (2 * 8) = nI 16 from rfl) ?_
                      refine lv_iload hx hb dRG_transform_36 (lv_at hl 0 rfl) ?_
                      refine mi_imul hx hb dRG_transform_38 ?_
                      refine lv_iload hx hb dRG_transform_39 (lv_at hl 1 rfl) ?_
                      refine lv_aload_n hx hb dRG_transform_41 rfl (lv_at hl 4 rfl) ?_
                      refine nw_get (C := "LatticeKeys$Ring") (TT := T_RG) (N := 4) hx hb hts (wg_ft i_RG) hown hK hO k_h0 (kn := 20) (ci := 4) (fl := [(1, 3329), (1, 7), (1, 3303), (3, 21)]) rfl hP rfl 3 (by decide) (hts _ (wg_t kw_94)) (fun _ h9 => h9) (cd := (3, 21)) rfl dRG_transform_42 (fun v31 hv31 => ?_)
                      obtain ⟨r23, rfl, kr23⟩ := (show ∃ r : Nat, v31 = .ref r ∧ T r = some 21 from hv31)
                      refine lv_iload_n hx hb dRG_transform_45 rfl (lv_at hl 2 rfl) ?_
                      refine lv_iload hx hb dRG_transform_46 (lv_at hl 0 rfl) ?_
                      refine mi_iadd hx hb dRG_transform_48 ?_
                      refine nw_ialdT hx hb hK hO kr23 (k := 21) (d := 1) rfl hP (by omega) (by omega) dRG_transform_49 ?_
                      refine lv_i2l hx hb dRG_transform_50 rfl ?_
                      refine mp_v (cx := []) (wr := []) hP hD hS hA [] [] rfl rfl rfl (by decide) (va_runV (As := [.ref f, .int (nI (16 * i25)), .int (nI 8), .long ((ctI 1 (16 + i25)).toInt64)]) (rest := []) F (N_RG_spread_7 l g _ T s25 pl hO hU h0 f pf (16 * i25) 8 ((ctI 1 (16 + i25)).toInt64) k_h0 k_f n_f (by omega)) (cwV 4 hts (wg_app (wg_c kw_640 (wg_c kw_642 (wg_c ks_7 (wg_c kw_4 wg_n)))) kw_643) rfl rfl rfl (by decide +kernel) ⟨by decide, by decide⟩) (pn_W "LatticeKeys$Ring" (en_ok g) (ci := 4) (kn := 20) (fl := [(1, 3329), (1, 7), (1, 3303), (3, 21)]) hK hO k_h0 rfl hP hD hS hA hE [] rfl rfl rfl) rfl rfl hl.1 rfl (lv_room (Nat.le_of_ble_eq_true rfl)) dRG_transform_51 ⟨by omega, by omega⟩) (fun  u23 H locs hu23 hP hD hS => ?_)
                      obtain ⟨s30, pl⟩ := u23
                      obtain ⟨⟨eq23, hFc23, -⟩, hO⟩ := hu23
                      have hO : okn g T s30 pl := hO
                      have hP : va_P g.1 vcl ([] ++ pl) _ := hP
                      have hD : va_D _ ([] ++ pl) := hD
                      have hFc23 : frm (M_RG_spread_7 pf) s25 s30 := hFc23
                      replace hR := bnd_step hR eq23
                      have hF := frm_tr hF hFc23 (fun k hk => by unfold M_RG_spread_7 at hk; unfold M_RG_transform_7; omega)
                      refine W.widen (k := 0) (n := 0) (by omega) (by omega) ?_
                      refine mi_iinc (k := 0) (x := i25) (d := 1) (y := i25 + 1) (lv' := [(5, .int (nI (i25 + 1))), (4, .int (nI 8)), (3, .int (nI 16)), (2, .int (nI 4)), (0, .ref h0), (1, .ref f)]) hx hb dRG_transform_54 hl rfl (by decide) rfl (by decide) rfl (fun ls hl => ?_)
                      refine lv_goto (tgt := 24) hx hb dRG_transform_57 (by decide) ?_
                      exact ih25 (i25 + 1) s30 pl ls H locs (by omega) hF hR (lv_sub hl [0, 1, 2, 3, 4, 5] rfl) hO hP hD hS
                  exact lp25 16 0 s24 pl ls _ _ (by omega) hF hR (lv_sub hl [0, 1, 2, 3, 4, 5] rfl) hO hP hD hS
                | succ n24 ih24 =>
                  intro i24 s24 pl ls H locs hm24 hF hR hl hO hP hD hS
                  refine lv_iload hx hb dRG_transform_24 (lv_at hl 0 rfl) ?_
                  refine lv_iload_n hx hb dRG_transform_26 rfl (lv_at hl 2 rfl) ?_
                  refine mi_ge (tgt := 60) hx hb dRG_transform_27 (by decide) (by omega) (by omega) (fun h39 => absurd h39 (by omega)) (fun h39 => ?_)
                  refine lv_aload_n hx hb dRG_transform_30 rfl (lv_at hl 4 rfl) ?_
                  refine lv_aload_n hx hb dRG_transform_31 rfl (lv_at hl 5 rfl) ?_
                  refine lv_iconst (v := nI 2) hx hb dRG_transform_32 (by decide) ?_
                  refine lv_iload hx hb dRG_transform_33 (lv_at hl 1 rfl) ?_
                  refine mi_imul hx hb dRG_transform_35 ?_
                  refine mi_as (show nI (2 * 16) = nI 32 from rfl) ?_
                  refine lv_iload hx hb dRG_transform_36 (lv_at hl 0 rfl) ?_
                  refine mi_imul hx hb dRG_transform_38 ?_
                  refine lv_iload hx hb dRG_transform_39 (lv_at hl 1 rfl) ?_
                  refine lv_aload_n hx hb dRG_transform_41 rfl (lv_at hl 4 rfl) ?_
                  refine nw_get (C := "LatticeKeys$Ring") (TT := T_RG) (N := 4) hx hb hts (wg_ft i_RG) hown hK hO k_h0 (kn := 20) (ci := 4) (fl := [(1, 3329), (1, 7), (1, 3303), (3, 21)]) rfl hP rfl 3 (by decide) (hts _ (wg_t kw_94)) (fun _ h9 => h9) (cd := (3, 21)) rfl dRG_transform_42 (fun v32 hv32 => ?_)
                  obtain ⟨r24, rfl, kr24⟩ := (show ∃ r : Nat, v32 = .ref r ∧ T r = some 21 from hv32)
                  refine lv_iload_n hx hb dRG_transform_45 rfl (lv_at hl 2 rfl) ?_
                  refine lv_iload hx hb dRG_transform_46 (lv_at hl 0 rfl) ?_
                  refine mi_iadd hx hb dRG_transform_48 ?_
                  refine nw_ialdT hx hb hK hO kr24 (k := 21) (d := 1) rfl hP (by omega) (by omega) dRG_transform_49 ?_
                  refine lv_i2l hx hb dRG_transform_50 rfl ?_
                  refine mp_v (cx := []) (wr := []) hP hD hS hA [] [] rfl rfl rfl (by decide) (va_runV (As := [.ref f, .int (nI (32 * i24)), .int (nI 16), .long ((ctI 1 (8 + i24)).toInt64)]) (rest := []) F (N_RG_spread_7 l g _ T s24 pl hO hU h0 f pf (32 * i24) 16 ((ctI 1 (8 + i24)).toInt64) k_h0 k_f n_f (by omega)) (cwV 4 hts (wg_app (wg_c kw_640 (wg_c kw_642 (wg_c ks_7 (wg_c kw_4 wg_n)))) kw_643) rfl rfl rfl (by decide +kernel) ⟨by decide, by decide⟩) (pn_W "LatticeKeys$Ring" (en_ok g) (ci := 4) (kn := 20) (fl := [(1, 3329), (1, 7), (1, 3303), (3, 21)]) hK hO k_h0 rfl hP hD hS hA hE [] rfl rfl rfl) rfl rfl hl.1 rfl (lv_room (Nat.le_of_ble_eq_true rfl)) dRG_transform_51 ⟨by omega, by omega⟩) (fun  u24 H locs hu24 hP hD hS => ?_)
                  obtain ⟨s31, pl⟩ := u24
                  obtain ⟨⟨eq24, hFc24, -⟩, hO⟩ := hu24
                  have hO : okn g T s31 pl := hO
                  have hP : va_P g.1 vcl ([] ++ pl) _ := hP
                  have hD : va_D _ ([] ++ pl) := hD
                  have hFc24 : frm (M_RG_spread_7 pf) s24 s31 := hFc24
                  replace hR := bnd_step hR eq24
                  have hF := frm_tr hF hFc24 (fun k hk => by unfold M_RG_spread_7 at hk; unfold M_RG_transform_7; omega)
                  refine W.widen (k := 0) (n := 0) (by omega) (by omega) ?_
                  refine mi_iinc (k := 0) (x := i24) (d := 1) (y := i24 + 1) (lv' := [(5, .int (nI (i24 + 1))), (4, .int (nI 16)), (3, .int (nI 8)), (2, .int (nI 3)), (0, .ref h0), (1, .ref f)]) hx hb dRG_transform_54 hl rfl (by decide) rfl (by decide) rfl (fun ls hl => ?_)
                  refine lv_goto (tgt := 24) hx hb dRG_transform_57 (by decide) ?_
                  exact ih24 (i24 + 1) s31 pl ls H locs (by omega) hF hR (lv_sub hl [0, 1, 2, 3, 4, 5] rfl) hO hP hD hS
              exact lp24 8 0 s23 pl ls _ _ (by omega) hF hR (lv_sub hl [0, 1, 2, 3, 4, 5] rfl) hO hP hD hS
            | succ n23 ih23 =>
              intro i23 s23 pl ls H locs hm23 hF hR hl hO hP hD hS
              refine lv_iload hx hb dRG_transform_24 (lv_at hl 0 rfl) ?_
              refine lv_iload_n hx hb dRG_transform_26 rfl (lv_at hl 2 rfl) ?_
              refine mi_ge (tgt := 60) hx hb dRG_transform_27 (by decide) (by omega) (by omega) (fun h40 => absurd h40 (by omega)) (fun h40 => ?_)
              refine lv_aload_n hx hb dRG_transform_30 rfl (lv_at hl 4 rfl) ?_
              refine lv_aload_n hx hb dRG_transform_31 rfl (lv_at hl 5 rfl) ?_
              refine lv_iconst (v := nI 2) hx hb dRG_transform_32 (by decide) ?_
              refine lv_iload hx hb dRG_transform_33 (lv_at hl 1 rfl) ?_
              refine mi_imul hx hb dRG_transform_35 ?_
              refine mi_as (show nI (2 * 32) = nI 64 from rfl) ?_
              refine lv_iload hx hb dRG_transform_36 (lv_at hl 0 rfl) ?_
              refine mi_imul hx hb dRG_transform_38 ?_
              refine lv_iload hx hb dRG_transform_39 (lv_at hl 1 rfl) ?_
              refine lv_aload_n hx hb dRG_transform_41 rfl (lv_at hl 4 rfl) ?_
              refine nw_get (C := "LatticeKeys$Ring") (TT := T_RG) (N := 4) hx hb hts (wg_ft i_RG) hown hK hO k_h0 (kn := 20) (ci := 4) (fl := [(1, 3329), (1, 7), (1, 3303), (3, 21)]) rfl hP rfl 3 (by decide) (hts _ (wg_t kw_94)) (fun _ h9 => h9) (cd := (3, 21)) rfl dRG_transform_42 (fun v33 hv33 => ?_)
              obtain ⟨r25, rfl, kr25⟩ := (show ∃ r : Nat, v33 = .ref r ∧ T r = some 21 from hv33)
              refine lv_iload_n hx hb dRG_transform_45 rfl (lv_at hl 2 rfl) ?_
              refine lv_iload hx hb dRG_transform_46 (lv_at hl 0 rfl) ?_
              refine mi_iadd hx hb dRG_transform_48 ?_
              refine nw_ialdT hx hb hK hO kr25 (k := 21) (d := 1) rfl hP (by omega) (by omega) dRG_transform_49 ?_
              refine lv_i2l hx hb dRG_transform_50 rfl ?_
              refine mp_v (cx := []) (wr := []) hP hD hS hA [] [] rfl rfl rfl (by decide) (va_runV (As := [.ref f, .int (nI (64 * i23)), .int (nI 32), .long ((ctI 1 (4 + i23)).toInt64)]) (rest := []) F (N_RG_spread_7 l g _ T s23 pl hO hU h0 f pf (64 * i23) 32 ((ctI 1 (4 + i23)).toInt64) k_h0 k_f n_f (by omega)) (cwV 4 hts (wg_app (wg_c kw_640 (wg_c kw_642 (wg_c ks_7 (wg_c kw_4 wg_n)))) kw_643) rfl rfl rfl (by decide +kernel) ⟨by decide, by decide⟩) (pn_W "LatticeKeys$Ring" (en_ok g) (ci := 4) (kn := 20) (fl := [(1, 3329), (1, 7), (1, 3303), (3, 21)]) hK hO k_h0 rfl hP hD hS hA hE [] rfl rfl rfl) rfl rfl hl.1 rfl (lv_room (Nat.le_of_ble_eq_true rfl)) dRG_transform_51 ⟨by omega, by omega⟩) (fun  u25 H locs hu25 hP hD hS => ?_)
              obtain ⟨s32, pl⟩ := u25
              obtain ⟨⟨eq25, hFc25, -⟩, hO⟩ := hu25
              have hO : okn g T s32 pl := hO
              have hP : va_P g.1 vcl ([] ++ pl) _ := hP
              have hD : va_D _ ([] ++ pl) := hD
              have hFc25 : frm (M_RG_spread_7 pf) s23 s32 := hFc25
              replace hR := bnd_step hR eq25
              have hF := frm_tr hF hFc25 (fun k hk => by unfold M_RG_spread_7 at hk; unfold M_RG_transform_7; omega)
              refine W.widen (k := 0) (n := 0) (by omega) (by omega) ?_
              refine mi_iinc (k := 0) (x := i23) (d := 1) (y := i23 + 1) (lv' := [(5, .int (nI (i23 + 1))), (4, .int (nI 32)), (3, .int (nI 4)), (2, .int (nI 2)), (0, .ref h0), (1, .ref f)]) hx hb dRG_transform_54 hl rfl (by decide) rfl (by decide) rfl (fun ls hl => ?_)
              refine lv_goto (tgt := 24) hx hb dRG_transform_57 (by decide) ?_
              exact ih23 (i23 + 1) s32 pl ls H locs (by omega) hF hR (lv_sub hl [0, 1, 2, 3, 4, 5] rfl) hO hP hD hS
          exact lp23 4 0 s22 pl ls _ _ (by omega) hF hR (lv_sub hl [0, 1, 2, 3, 4, 5] rfl) hO hP hD hS
        | succ n22 ih22 =>
          intro i22 s22 pl ls H locs hm22 hF hR hl hO hP hD hS
          refine lv_iload hx hb dRG_transform_24 (lv_at hl 0 rfl) ?_
          refine lv_iload_n hx hb dRG_transform_26 rfl (lv_at hl 2 rfl) ?_
          refine mi_ge (tgt := 60) hx hb dRG_transform_27 (by decide) (by omega) (by omega) (fun h41 => absurd h41 (by omega)) (fun h41 => ?_)
          refine lv_aload_n hx hb dRG_transform_30 rfl (lv_at hl 4 rfl) ?_
          refine lv_aload_n hx hb dRG_transform_31 rfl (lv_at hl 5 rfl) ?_
          refine lv_iconst (v := nI 2) hx hb dRG_transform_32 (by decide) ?_
          refine lv_iload hx hb dRG_transform_33 (lv_at hl 1 rfl) ?_
          refine mi_imul hx hb dRG_transform_35 ?_
          refine mi_as (show nI (2 * 64) = nI 128 from rfl) ?_
          refine lv_iload hx hb dRG_transform_36 (lv_at hl 0 rfl) ?_
          refine mi_imul hx hb dRG_transform_38 ?_
          refine lv_iload hx hb dRG_transform_39 (lv_at hl 1 rfl) ?_
          refine lv_aload_n hx hb dRG_transform_41 rfl (lv_at hl 4 rfl) ?_
          refine nw_get (C := "LatticeKeys$Ring") (TT := T_RG) (N := 4) hx hb hts (wg_ft i_RG) hown hK hO k_h0 (kn := 20) (ci := 4) (fl := [(1, 3329), (1, 7), (1, 3303), (3, 21)]) rfl hP rfl 3 (by decide) (hts _ (wg_t kw_94)) (fun _ h9 => h9) (cd := (3, 21)) rfl dRG_transform_42 (fun v34 hv34 => ?_)
          obtain ⟨r26, rfl, kr26⟩ := (show ∃ r : Nat, v34 = .ref r ∧ T r = some 21 from hv34)
          refine lv_iload_n hx hb dRG_transform_45 rfl (lv_at hl 2 rfl) ?_
          refine lv_iload hx hb dRG_transform_46 (lv_at hl 0 rfl) ?_
          refine mi_iadd hx hb dRG_transform_48 ?_
          refine nw_ialdT hx hb hK hO kr26 (k := 21) (d := 1) rfl hP (by omega) (by omega) dRG_transform_49 ?_
          refine lv_i2l hx hb dRG_transform_50 rfl ?_
          refine mp_v (cx := []) (wr := []) hP hD hS hA [] [] rfl rfl rfl (by decide) (va_runV (As := [.ref f, .int (nI (128 * i22)), .int (nI 64), .long ((ctI 1 (2 + i22)).toInt64)]) (rest := []) F (N_RG_spread_7 l g _ T s22 pl hO hU h0 f pf (128 * i22) 64 ((ctI 1 (2 + i22)).toInt64) k_h0 k_f n_f (by omega)) (cwV 4 hts (wg_app (wg_c kw_640 (wg_c kw_642 (wg_c ks_7 (wg_c kw_4 wg_n)))) kw_643) rfl rfl rfl (by decide +kernel) ⟨by decide, by decide⟩) (pn_W "LatticeKeys$Ring" (en_ok g) (ci := 4) (kn := 20) (fl := [(1, 3329), (1, 7), (1, 3303), (3, 21)]) hK hO k_h0 rfl hP hD hS hA hE [] rfl rfl rfl) rfl rfl hl.1 rfl (lv_room (Nat.le_of_ble_eq_true rfl)) dRG_transform_51 ⟨by omega, by omega⟩) (fun  u26 H locs hu26 hP hD hS => ?_)
          obtain ⟨s33, pl⟩ := u26
          obtain ⟨⟨eq26, hFc26, -⟩, hO⟩ := hu26
          have hO : okn g T s33 pl := hO
          have hP : va_P g.1 vcl ([] ++ pl) _ := hP
          have hD : va_D _ ([] ++ pl) := hD
          have hFc26 : frm (M_RG_spread_7 pf) s22 s33 := hFc26
          replace hR := bnd_step hR eq26
          have hF := frm_tr hF hFc26 (fun k hk => by unfold M_RG_spread_7 at hk; unfold M_RG_transform_7; omega)
          refine W.widen (k := 0) (n := 0) (by omega) (by omega) ?_
          refine mi_iinc (k := 0) (x := i22) (d := 1) (y := i22 + 1) (lv' := [(5, .int (nI (i22 + 1))), (4, .int (nI 64)), (3, .int (nI 2)), (2, .int (nI 1)), (0, .ref h0), (1, .ref f)]) hx hb dRG_transform_54 hl rfl (by decide) rfl (by decide) rfl (fun ls hl => ?_)
          refine lv_goto (tgt := 24) hx hb dRG_transform_57 (by decide) ?_
          exact ih22 (i22 + 1) s33 pl ls H locs (by omega) hF hR (lv_sub hl [0, 1, 2, 3, 4, 5] rfl) hO hP hD hS
      exact lp22 2 0 s21 pl ls _ _ (by omega) hF hR (lv_sub hl [0, 1, 2, 3, 4, 5] rfl) hO hP hD hS
    | succ n21 ih21 =>
      intro i21 s21 pl ls H locs hm21 hF hR hl hO hP hD hS
      refine lv_iload hx hb dRG_transform_24 (lv_at hl 0 rfl) ?_
      refine lv_iload_n hx hb dRG_transform_26 rfl (lv_at hl 2 rfl) ?_
      refine mi_ge (tgt := 60) hx hb dRG_transform_27 (by decide) (by omega) (by omega) (fun h42 => absurd h42 (by omega)) (fun h42 => ?_)
      refine lv_aload_n hx hb dRG_transform_30 rfl (lv_at hl 4 rfl) ?_
      refine lv_aload_n hx hb dRG_transform_31 rfl (lv_at hl 5 rfl) ?_
      refine lv_iconst (v := nI 2) hx hb dRG_transform_32 (by decide) ?_
      refine lv_iload hx hb dRG_transform_33 (lv_at hl 1 rfl) ?_
      refine mi_imul hx hb dRG_transform_35 ?_
      refine mi_as (show nI (2 * 128) = nI 256 from rfl) ?_
      refine lv_iload hx hb dRG_transform_36 (lv_at hl 0 rfl) ?_
      refine mi_imul hx hb dRG_transform_38 ?_
      refine lv_iload hx hb dRG_transform_39 (lv_at hl 1 rfl) ?_
      refine lv_aload_n hx hb dRG_transform_41 rfl (lv_at hl 4 rfl) ?_
      refine nw_get (C := "LatticeKeys$Ring") (TT := T_RG) (N := 4) hx hb hts (wg_ft i_RG) hown hK hO k_h0 (kn := 20) (ci := 4) (fl := [(1, 3329), (1, 7), (1, 3303), (3, 21)]) rfl hP rfl 3 (by decide) (hts _ (wg_t kw_94)) (fun _ h9 => h9) (cd := (3, 21)) rfl dRG_transform_42 (fun v35 hv35 => ?_)
      obtain ⟨r27, rfl, kr27⟩ := (show ∃ r : Nat, v35 = .ref r ∧ T r = some 21 from hv35)
      refine lv_iload_n hx hb dRG_transform_45 rfl (lv_at hl 2 rfl) ?_
      refine lv_iload hx hb dRG_transform_46 (lv_at hl 0 rfl) ?_
      refine mi_iadd hx hb dRG_transform_48 ?_
      refine nw_ialdT hx hb hK hO kr27 (k := 21) (d := 1) rfl hP (by omega) (by omega) dRG_transform_49 ?_
      refine lv_i2l hx hb dRG_transform_50 rfl ?_
      refine mp_v (cx := []) (wr := []) hP hD hS hA [] [] rfl rfl rfl (by decide) (va_runV (As := [.ref f, .int (nI (256 * i21)), .int (nI 128), .long ((ctI 1 (1 + i21)).toInt64)]) (rest := []) F (N_RG_spread_7 l g _ T s21 pl hO hU h0 f pf (256 * i21) 128 ((ctI 1 (1 + i21)).toInt64) k_h0 k_f n_f (by omega)) (cwV 4 hts (wg_app (wg_c kw_640 (wg_c kw_642 (wg_c ks_7 (wg_c kw_4 wg_n)))) kw_643) rfl rfl rfl (by decide +kernel) ⟨by decide, by decide⟩) (pn_W "LatticeKeys$Ring" (en_ok g) (ci := 4) (kn := 20) (fl := [(1, 3329), (1, 7), (1, 3303), (3, 21)]) hK hO k_h0 rfl hP hD hS hA hE [] rfl rfl rfl) rfl rfl hl.1 rfl (lv_room (Nat.le_of_ble_eq_true rfl)) dRG_transform_51 ⟨by omega, by omega⟩) (fun  u27 H locs hu27 hP hD hS => ?_)
      obtain ⟨s34, pl⟩ := u27
      obtain ⟨⟨eq27, hFc27, -⟩, hO⟩ := hu27
      have hO : okn g T s34 pl := hO
      have hP : va_P g.1 vcl ([] ++ pl) _ := hP
      have hD : va_D _ ([] ++ pl) := hD
      have hFc27 : frm (M_RG_spread_7 pf) s21 s34 := hFc27
      replace hR := bnd_step hR eq27
      have hF := frm_tr hF hFc27 (fun k hk => by unfold M_RG_spread_7 at hk; unfold M_RG_transform_7; omega)
      refine W.widen (k := 0) (n := 0) (by omega) (by omega) ?_
      refine mi_iinc (k := 0) (x := i21) (d := 1) (y := i21 + 1) (lv' := [(5, .int (nI (i21 + 1))), (4, .int (nI 128)), (3, .int (nI 1)), (2, .int (nI 0)), (0, .ref h0), (1, .ref f)]) hx hb dRG_transform_54 hl rfl (by decide) rfl (by decide) rfl (fun ls hl => ?_)
      refine lv_goto (tgt := 24) hx hb dRG_transform_57 (by decide) ?_
      exact ih21 (i21 + 1) s34 pl ls H locs (by omega) hF hR (lv_sub hl [0, 1, 2, 3, 4, 5] rfl) hO hP hD hS
  exact lp21 1 0 s pl ls _ _ (by omega) hF hR (lv_sub hl [0, 1, 2, 3, 4, 5] rfl) hO hP hD hS
def M_RG_transform_8 (pf : Nat) (k : Nat) : Prop := k = pf ∨ (0 : Nat) = 1
noncomputable def F_RG_transform_8_L7 (pf : Nat) : Nat → Nat → Sto → Sto
  | 0, i28, s28 => s28
  | n28 + 1, i28, s28 => bnd (F_RG_spread_8 pf (2 * i28) 1 ((ctI 2 (128 + i28)).toInt64) s28) fun s29 => F_RG_transform_8_L7 pf n28 (i28 + 1) s29
noncomputable def F_RG_transform_8_L6 (pf : Nat) : Nat → Nat → Sto → Sto
  | 0, i27, s27 => F_RG_transform_8_L7 pf 128 0 s27
  | n27 + 1, i27, s27 => bnd (F_RG_spread_8 pf (4 * i27) 2 ((ctI 2 (64 + i27)).toInt64) s27) fun s30 => F_RG_transform_8_L6 pf n27 (i27 + 1) s30
noncomputable def F_RG_transform_8_L5 (pf : Nat) : Nat → Nat → Sto → Sto
  | 0, i26, s26 => F_RG_transform_8_L6 pf 64 0 s26
  | n26 + 1, i26, s26 => bnd (F_RG_spread_8 pf (8 * i26) 4 ((ctI 2 (32 + i26)).toInt64) s26) fun s31 => F_RG_transform_8_L5 pf n26 (i26 + 1) s31
noncomputable def F_RG_transform_8_L4 (pf : Nat) : Nat → Nat → Sto → Sto
  | 0, i25, s25 => F_RG_transform_8_L5 pf 32 0 s25
  | n25 + 1, i25, s25 => bnd (F_RG_spread_8 pf (16 * i25) 8 ((ctI 2 (16 + i25)).toInt64) s25) fun s32 => F_RG_transform_8_L4 pf n25 (i25 + 1) s32
noncomputable def F_RG_transform_8_L3 (pf : Nat) : Nat → Nat → Sto → Sto
  | 0, i24, s24 => F_RG_transform_8_L4 pf 16 0 s24
  | n24 + 1, i24, s24 => bnd (F_RG_spread_8 pf (32 * i24) 16 ((ctI 2 (8 + i24)).toInt64) s24) fun s33 => F_RG_transform_8_L3 pf n24 (i24 + 1) s33
noncomputable def F_RG_transform_8_L2 (pf : Nat) : Nat → Nat → Sto → Sto
  | 0, i23, s23 => F_RG_transform_8_L3 pf 8 0 s23
  | n23 + 1, i23, s23 => bnd (F_RG_spread_8 pf (64 * i23) 32 ((ctI 2 (4 + i23)).toInt64) s23) fun s34 => F_RG_transform_8_L2 pf n23 (i23 + 1) s34
noncomputable def F_RG_transform_8_L1 (pf : Nat) : Nat → Nat → Sto → Sto
  | 0, i22, s22 => F_RG_transform_8_L2 pf 4 0 s22
  | n22 + 1, i22, s22 => bnd (F_RG_spread_8 pf (128 * i22) 64 ((ctI 2 (2 + i22)).toInt64) s22) fun s35 => F_RG_transform_8_L1 pf n22 (i22 + 1) s35
noncomputable def F_RG_transform_8_L0 (pf : Nat) : Nat → Nat → Sto → Sto
  | 0, i21, s21 => F_RG_transform_8_L1 pf 2 0 s21
  | n21 + 1, i21, s21 => bnd (F_RG_spread_8 pf (256 * i21) 128 ((ctI 2 (1 + i21)).toInt64) s21) fun s36 => F_RG_transform_8_L0 pf n21 (i21 + 1) s36
noncomputable def F_RG_transform_8 (pf : Nat) (s : Sto) : Sto := F_RG_transform_8_L0 pf 1 0 s
set_option maxHeartbeats 400000 in
set_option maxRecDepth 100000 in
theorem N_RG_transform_8 (l : Launch) (g : Gd) (sz : Nat) (T : TyN) (s : Sto) (pl : va_W) (hO : okn g T s pl) (hU : inj T) (h0 f : Nat) (pf : Nat) (k_h0 : T h0 = some 22) (k_f : T f = some pf) (n_f : nsp pf = (0, 256, []))  : Met l y_RG_transform w_RG_transform ({ frames := 1, cells := 0, slots := 0, locals := 29 } : Room) (va_Pc [.ref h0, .ref f] (pr (en g) g.1 vcl sz ([] ++ pl))) (va_Qv (fun (u : (Sto) × va_W) => (u.1 = F_RG_transform_8 pf s ∧ frm (M_RG_transform_8 pf) s u.1 ∧ True) ∧ okn g T u.1 u.2) (po g.1 vcl (va_A ([] ++ pl) sz) (fun (u : (Sto) × va_W) => [] ++ u.2)) (va_A ([] ++ pl) sz)) 0 0 (va_A ([] ++ pl) sz) := by
  refine mc_entry (cc := c_RG_transform) (maxL := 6) (ret := none) (by decide) rfl (Nat.le_of_ble_eq_true rfl) ?_
  intro p e s0 m args below meth c ls F hr hlk hnm hsz hP hD hE hA hl
  obtain ⟨hx, hb, hml, hown, hts⟩ := id F
  have hK := hE.1
  generalize va_A ([] ++ pl) sz = A at hD hE hA ⊢
  have hS : va_S A s0.heap s0.heap [] := va_S.rf
  have hl : lv_has ls 6 [(0, .ref h0), (1, .ref f)] := hl
  have hR : F_RG_transform_8 pf s = F_RG_transform_8 pf s := rfl
  have hF : frm (M_RG_transform_8 pf) s s := frm_rf
  refine lv_iconst (v := nI 0) hx hb dRG_transform_0 (by decide) ?_
  refine lv_istore_n (lv' := [(2, .int (nI 0)), (0, .ref h0), (1, .ref f)]) hx hb dRG_transform_1 rfl hl (by decide) rfl (fun ls hl => ?_)
  refine lv_iload_n hx hb dRG_transform_2 rfl (lv_at hl 0 rfl) ?_
  refine lv_aload_n hx hb dRG_transform_3 rfl (lv_at hl 1 rfl) ?_
  refine nw_get (C := "LatticeKeys$Ring") (TT := T_RG) (N := 4) hx hb hts (wg_ft i_RG) hown hK hO k_h0 (kn := 22) (ci := 4) (fl := [(1, 8380417), (1, 8), (1, 8347681), (3, 23)]) rfl hP rfl 1 (by decide) (hts _ (wg_t kw_92)) (fun _ h9 => h9) (cd := (1, 8)) rfl dRG_transform_4 (fun v21 hv21 => ?_)
  obtain rfl := (show v21 = .int (nI 8) from hv21)
  refine mi_ge (tgt := 66) hx hb dRG_transform_7 (by decide) (by omega) (by omega) (fun h21 => absurd h21 (by omega)) (fun h21 => ?_)
  refine lv_iconst (v := nI 1) hx hb dRG_transform_10 (by decide) ?_
  refine lv_iload_n hx hb dRG_transform_11 rfl (lv_at hl 0 rfl) ?_
  refine mi_ishl hx hb dRG_transform_12 (by decide) (by decide) ?_
  refine mi_as (show nI (1 * 2 ^ 0) = nI 1 from rfl) ?_
  refine lv_istore_n (lv' := [(3, .int (nI 1)), (2, .int (nI 0)), (0, .ref h0), (1, .ref f)]) hx hb dRG_transform_13 rfl hl (by decide) rfl (fun ls hl => ?_)
  refine lv_sipush (v := nI 128) hx hb dRG_transform_14 (by decide) ?_
  refine lv_iload_n hx hb dRG_transform_17 rfl (lv_at hl 1 rfl) ?_
  refine mi_ishr hx hb dRG_transform_18 (by omega) (by decide) ?_
  refine mi_as (show nI (128 / 2 ^ 0) = nI (128) from rfl) ?_
  refine lv_istore (lv' := [(4, .int (nI 128)), (3, .int (nI 1)), (2, .int (nI 0)), (0, .ref h0), (1, .ref f)]) hx hb dRG_transform_19 hl (by decide) rfl (fun ls hl => ?_)
  refine lv_iconst (v := nI 0) hx hb dRG_transform_21 (by decide) ?_
  refine lv_istore (lv' := [(5, .int (nI 0)), (4, .int (nI 128)), (3, .int (nI 1)), (2, .int (nI 0)), (0, .ref h0), (1, .ref f)]) hx hb dRG_transform_22 hl (by decide) rfl (fun ls hl => ?_)
  have lp21 : ∀ (n21 : Nat) (i21 : Nat) (s21 : Sto) (pl : va_W) (ls : Array Slot) (H : Heap) (locs : List Loc), n21 + i21 = 1 → frm (M_RG_transform_8 pf) s s21 → F_RG_transform_8 pf s = F_RG_transform_8_L0 pf n21 i21 s21 → lv_has ls 6 [(5, .int (nI i21)), (4, .int (nI 128)), (3, .int (nI 1)), (2, .int (nI 0)), (0, .ref h0), (1, .ref f)] → okn g T s21 pl → va_P g.1 vcl ([] ++ pl) H → va_D A ([] ++ pl) → va_S A s0.heap H locs → W p l e ({ frames := 1, cells := 0, slots := 0, locals := 29 } : Room) s0 m args below meth c H locs 0 0 (MQ below (va_Qv (fun (u : (Sto) × va_W) => (u.1 = F_RG_transform_8 pf s ∧ frm (M_RG_transform_8 pf) s u.1 ∧ True) ∧ okn g T u.1 u.2) (po g.1 vcl A (fun (u : (Sto) × va_W) => [] ++ u.2)) A) args s0 0 0 A) (F0 m 24 ls []) := by
    intro n21
    induction n21 with
    | zero =>
      intro i21 s21 pl ls H locs hm21 hF hR hl hO hP hD hS
      refine lv_iload hx hb dRG_transform_24 (lv_at hl 0 rfl) ?_
      refine lv_iload_n hx hb dRG_transform_26 rfl (lv_at hl 2 rfl) ?_
      refine mi_ge (tgt := 60) hx hb dRG_transform_27 (by decide) (by omega) (by omega) (fun h22 => ?_) (fun h22 => absurd h22 (by omega))
      refine mi_iinc (k := 3) (x := 0) (d := 1) (y := 1) (lv' := [(2, .int (nI 1)), (5, .int (nI i21)), (4, .int (nI 128)), (3, .int (nI 1)), (0, .ref h0), (1, .ref f)]) hx hb dRG_transform_60 hl rfl (by decide) rfl (by decide) rfl (fun ls hl => ?_)
      refine lv_goto (tgt := 2) hx hb dRG_transform_63 (by decide) ?_
      refine lv_iload_n hx hb dRG_transform_2 rfl (lv_at hl 0 rfl) ?_
      refine lv_aload_n hx hb dRG_transform_3 rfl (lv_at hl 4 rfl) ?_
      refine nw_get (C := "LatticeKeys$Ring") (TT := T_RG) (N := 4) hx hb hts (wg_ft i_RG) hown hK hO k_h0 (kn := 22) (ci := 4) (fl := [(1, 8380417), (1, 8), (1, 8347681), (3, 23)]) rfl hP rfl 1 (by decide) (hts _ (wg_t kw_92)) (fun _ h9 => h9) (cd := (1, 8)) rfl dRG_transform_4 (fun v22 hv22 => ?_)
      obtain rfl := (show v22 = .int (nI 8) from hv22)
      refine mi_ge (tgt := 66) hx hb dRG_transform_7 (by decide) (by omega) (by omega) (fun h23 => absurd h23 (by omega)) (fun h23 => ?_)
      refine lv_iconst (v := nI 1) hx hb dRG_transform_10 (by decide) ?_
      refine lv_iload_n hx hb dRG_transform_11 rfl (lv_at hl 0 rfl) ?_
      refine mi_ishl hx hb dRG_transform_12 (by decide) (by decide) ?_
      refine mi_as (show nI (1 * 2 ^ 1) = nI 2 from rfl) ?_
      refine lv_istore_n (lv' := [(3, .int (nI 2)), (2, .int (nI 1)), (5, .int (nI i21)), (4, .int (nI 128)), (0, .ref h0), (1, .ref f)]) hx hb dRG_transform_13 rfl hl (by decide) rfl (fun ls hl => ?_)
      refine lv_sipush (v := nI 128) hx hb dRG_transform_14 (by decide) ?_
      refine lv_iload_n hx hb dRG_transform_17 rfl (lv_at hl 1 rfl) ?_
      refine mi_ishr hx hb dRG_transform_18 (by omega) (by decide) ?_
      refine mi_as (show nI (128 / 2 ^ 1) = nI (64) from rfl) ?_
      refine lv_istore (lv' := [(4, .int (nI 64)), (3, .int (nI 2)), (2, .int (nI 1)), (5, .int (nI i21)), (0, .ref h0), (1, .ref f)]) hx hb dRG_transform_19 hl (by decide) rfl (fun ls hl => ?_)
      refine lv_iconst (v := nI 0) hx hb dRG_transform_21 (by decide) ?_
      refine lv_istore (lv' := [(5, .int (nI 0)), (4, .int (nI 64)), (3, .int (nI 2)), (2, .int (nI 1)), (0, .ref h0), (1, .ref f)]) hx hb dRG_transform_22 hl (by decide) rfl (fun ls hl => ?_)
      have lp22 : ∀ (n22 : Nat) (i22 : Nat) (s22 : Sto) (pl : va_W) (ls : Array Slot) (H : Heap) (locs : List Loc), n22 + i22 = 2 → frm (M_RG_transform_8 pf) s s22 → F_RG_transform_8 pf s = F_RG_transform_8_L1 pf n22 i22 s22 → lv_has ls 6 [(5, .int (nI i22)), (4, .int (nI 64)), (3, .int (nI 2)), (2, .int (nI 1)), (0, .ref h0), (1, .ref f)] → okn g T s22 pl → va_P g.1 vcl ([] ++ pl) H → va_D A ([] ++ pl) → va_S A s0.heap H locs → W p l e ({ frames := 1, cells := 0, slots := 0, locals := 29 } : Room) s0 m args below meth c H locs 0 0 (MQ below (va_Qv (fun (u : (Sto) × va_W) => (u.1 = F_RG_transform_8 pf s ∧ frm (M_RG_transform_8 pf) s u.1 ∧ True) ∧ okn g T u.1 u.2) (po g.1 vcl A (fun (u : (Sto) × va_W) => [] ++ u.2)) A) args s0 0 0 A) (F0 m 24 ls []) := by
        intro n22
        induction n22 with
        | zero =>
          intro i22 s22 pl ls H locs hm22 hF hR hl hO hP hD hS
          refine lv_iload hx hb dRG_transform_24 (lv_at hl 0 rfl) ?_
          refine lv_iload_n hx hb dRG_transform_26 rfl (lv_at hl 2 rfl) ?_
          refine mi_ge (tgt := 60) hx hb dRG_transform_27 (by decide) (by omega) (by omega) (fun h24 => ?_) (fun h24 => absurd h24 (by omega))
          refine mi_iinc (k := 3) (x := 1) (d := 1) (y := 2) (lv' := [(2, .int (nI 2)), (5, .int (nI i22)), (4, .int (nI 64)), (3, .int (nI 2)), (0, .ref h0), (1, .ref f)]) hx hb dRG_transform_60 hl rfl (by decide) rfl (by decide) rfl (fun ls hl => ?_)
          refine lv_goto (tgt := 2) hx hb dRG_transform_63 (by decide) ?_
          refine lv_iload_n hx hb dRG_transform_2 rfl (lv_at hl 0 rfl) ?_
          refine lv_aload_n hx hb dRG_transform_3 rfl (lv_at hl 4 rfl) ?_
          refine nw_get (C := "LatticeKeys$Ring") (TT := T_RG) (N := 4) hx hb hts (wg_ft i_RG) hown hK hO k_h0 (kn := 22) (ci := 4) (fl := [(1, 8380417), (1, 8), (1, 8347681), (3, 23)]) rfl hP rfl 1 (by decide) (hts _ (wg_t kw_92)) (fun _ h9 => h9) (cd := (1, 8)) rfl dRG_transform_4 (fun v23 hv23 => ?_)
          obtain rfl := (show v23 = .int (nI 8) from hv23)
          refine mi_ge (tgt := 66) hx hb dRG_transform_7 (by decide) (by omega) (by omega) (fun h25 => absurd h25 (by omega)) (fun h25 => ?_)
          refine lv_iconst (v := nI 1) hx hb dRG_transform_10 (by decide) ?_
          refine lv_iload_n hx hb dRG_transform_11 rfl (lv_at hl 0 rfl) ?_
          refine mi_ishl hx hb dRG_transform_12 (by decide) (by decide) ?_
          refine mi_as (show nI (1 * 2 ^ 2) = nI 4 from rfl) ?_
          refine lv_istore_n (lv' := [(3, .int (nI 4)), (2, .int (nI 2)), (5, .int (nI i22)), (4, .int (nI 64)), (0, .ref h0), (1, .ref f)]) hx hb dRG_transform_13 rfl hl (by decide) rfl (fun ls hl => ?_)
          refine lv_sipush (v := nI 128) hx hb dRG_transform_14 (by decide) ?_
          refine lv_iload_n hx hb dRG_transform_17 rfl (lv_at hl 1 rfl) ?_
          refine mi_ishr hx hb dRG_transform_18 (by omega) (by decide) ?_
          refine mi_as (show nI (128 / 2 ^ 2) = nI (32) from rfl) ?_
          refine lv_istore (lv' := [(4, .int (nI 32)), (3, .int (nI 4)), (2, .int (nI 2)), (5, .int (nI i22)), (0, .ref h0), (1, .ref f)]) hx hb dRG_transform_19 hl (by decide) rfl (fun ls hl => ?_)
          refine lv_iconst (v := nI 0) hx hb dRG_transform_21 (by decide) ?_
          refine lv_istore (lv' := [(5, .int (nI 0)), (4, .int (nI 32)), (3, .int (nI 4)), (2, .int (nI 2)), (0, .ref h0), (1, .ref f)]) hx hb dRG_transform_22 hl (by decide) rfl (fun ls hl => ?_)
          have lp23 : ∀ (n23 : Nat) (i23 : Nat) (s23 : Sto) (pl : va_W) (ls : Array Slot) (H : Heap) (locs : List Loc), n23 + i23 = 4 → frm (M_RG_transform_8 pf) s s23 → F_RG_transform_8 pf s = F_RG_transform_8_L2 pf n23 i23 s23 → lv_has ls 6 [(5, .int (nI i23)), (4, .int (nI 32)), (3, .int (nI 4)), (2, .int (nI 2)), (0, .ref h0), (1, .ref f)] → okn g T s23 pl → va_P g.1 vcl ([] ++ pl) H → va_D A ([] ++ pl) → va_S A s0.heap H locs → W p l e ({ frames := 1, cells := 0, slots := 0, locals := 29 } : Room) s0 m args below meth c H locs 0 0 (MQ below (va_Qv (fun (u : (Sto) × va_W) => (u.1 = F_RG_transform_8 pf s ∧ frm (M_RG_transform_8 pf) s u.1 ∧ True) ∧ okn g T u.1 u.2) (po g.1 vcl A (fun (u : (Sto) × va_W) => [] ++ u.2)) A) args s0 0 0 A) (F0 m 24 ls []) := by
            intro n23
            induction n23 with
            | zero =>
              intro i23 s23 pl ls H locs hm23 hF hR hl hO hP hD hS
              refine lv_iload hx hb dRG_transform_24 (lv_at hl 0 rfl) ?_
              refine lv_iload_n hx hb dRG_transform_26 rfl (lv_at hl 2 rfl) ?_
              refine mi_ge (tgt := 60) hx hb dRG_transform_27 (by decide) (by omega) (by omega) (fun h26 => ?_) (fun h26 => absurd h26 (by omega))
              refine mi_iinc (k := 3) (x := 2) (d := 1) (y := 3) (lv' := [(2, .int (nI 3)), (5, .int (nI i23)), (4, .int (nI 32)), (3, .int (nI 4)), (0, .ref h0), (1, .ref f)]) hx hb dRG_transform_60 hl rfl (by decide) rfl (by decide) rfl (fun ls hl => ?_)
              refine lv_goto (tgt := 2) hx hb dRG_transform_63 (by decide) ?_
              refine lv_iload_n hx hb dRG_transform_2 rfl (lv_at hl 0 rfl) ?_
              refine lv_aload_n hx hb dRG_transform_3 rfl (lv_at hl 4 rfl) ?_
              refine nw_get (C := "LatticeKeys$Ring") (TT := T_RG) (N := 4) hx hb hts (wg_ft i_RG) hown hK hO k_h0 (kn := 22) (ci := 4) (fl := [(1, 8380417), (1, 8), (1, 8347681), (3, 23)]) rfl hP rfl 1 (by decide) (hts _ (wg_t kw_92)) (fun _ h9 => h9) (cd := (1, 8)) rfl dRG_transform_4 (fun v24 hv24 => ?_)
              obtain rfl := (show v24 = .int (nI 8) from hv24)
              refine mi_ge (tgt := 66) hx hb dRG_transform_7 (by decide) (by omega) (by omega) (fun h27 => absurd h27 (by omega)) (fun h27 => ?_)
              refine lv_iconst (v := nI 1) hx hb dRG_transform_10 (by decide) ?_
              refine lv_iload_n hx hb dRG_transform_11 rfl (lv_at hl 0 rfl) ?_
              refine mi_ishl hx hb dRG_transform_12 (by decide) (by decide) ?_
              refine mi_as (show nI (1 * 2 ^ 3) = nI 8 from rfl) ?_
              refine lv_istore_n (lv' := [(3, .int (nI 8)), (2, .int (nI 3)), (5, .int (nI i23)), (4, .int (nI 32)), (0, .ref h0), (1, .ref f)]) hx hb dRG_transform_13 rfl hl (by decide) rfl (fun ls hl => ?_)
              refine lv_sipush (v := nI 128) hx hb dRG_transform_14 (by decide) ?_
              refine lv_iload_n hx hb dRG_transform_17 rfl (lv_at hl 1 rfl) ?_
              refine mi_ishr hx hb dRG_transform_18 (by omega) (by decide) ?_
              refine mi_as (show nI (128 / 2 ^ 3) = nI (16) from rfl) ?_
              refine lv_istore (lv' := [(4, .int (nI 16)), (3, .int (nI 8)), (2, .int (nI 3)), (5, .int (nI i23)), (0, .ref h0), (1, .ref f)]) hx hb dRG_transform_19 hl (by decide) rfl (fun ls hl => ?_)
              refine lv_iconst (v := nI 0) hx hb dRG_transform_21 (by decide) ?_
              refine lv_istore (lv' := [(5, .int (nI 0)), (4, .int (nI 16)), (3, .int (nI 8)), (2, .int (nI 3)), (0, .ref h0), (1, .ref f)]) hx hb dRG_transform_22 hl (by decide) rfl (fun ls hl => ?_)
              have lp24 : ∀ (n24 : Nat) (i24 : Nat) (s24 : Sto) (pl : va_W) (ls : Array Slot) (H : Heap) (locs : List Loc), n24 + i24 = 8 → frm (M_RG_transform_8 pf) s s24 → F_RG_transform_8 pf s = F_RG_transform_8_L3 pf n24 i24 s24 → lv_has ls 6 [(5, .int (nI i24)), (4, .int (nI 16)), (3, .int (nI 8)), (2, .int (nI 3)), (0, .ref h0), (1, .ref f)] → okn g T s24 pl → va_P g.1 vcl ([] ++ pl) H → va_D A ([] ++ pl) → va_S A s0.heap H locs → W p l e ({ frames := 1, cells := 0, slots := 0, locals := 29 } : Room) s0 m args below meth c H locs 0 0 (MQ below (va_Qv (fun (u : (Sto) × va_W) => (u.1 = F_RG_transform_8 pf s ∧ frm (M_RG_transform_8 pf) s u.1 ∧ True) ∧ okn g T u.1 u.2) (po g.1 vcl A (fun (u : (Sto) × va_W) => [] ++ u.2)) A) args s0 0 0 A) (F0 m 24 ls []) := by
                intro n24
                induction n24 with
                | zero =>
                  intro i24 s24 pl ls H locs hm24 hF hR hl hO hP hD hS
                  refine lv_iload hx hb dRG_transform_24 (lv_at hl 0 rfl) ?_
                  refine lv_iload_n hx hb dRG_transform_26 rfl (lv_at hl 2 rfl) ?_
                  refine mi_ge (tgt := 60) hx hb dRG_transform_27 (by decide) (by omega) (by omega) (fun h28 => ?_) (fun h28 => absurd h28 (by omega))
                  refine mi_iinc (k := 3) (x := 3) (d := 1) (y := 4) (lv' := [(2, .int (nI 4)), (5, .int (nI i24)), (4, .int (nI 16)), (3, .int (nI 8)), (0, .ref h0), (1, .ref f)]) hx hb dRG_transform_60 hl rfl (by decide) rfl (by decide) rfl (fun ls hl => ?_)
                  refine lv_goto (tgt := 2) hx hb dRG_transform_63 (by decide) ?_
                  refine lv_iload_n hx hb dRG_transform_2 rfl (lv_at hl 0 rfl) ?_
                  refine lv_aload_n hx hb dRG_transform_3 rfl (lv_at hl 4 rfl) ?_
                  refine nw_get (C := "LatticeKeys$Ring") (TT := T_RG) (N := 4) hx hb hts (wg_ft i_RG) hown hK hO k_h0 (kn := 22) (ci := 4) (fl := [(1, 8380417), (1, 8), (1, 8347681), (3, 23)]) rfl hP rfl 1 (by decide) (hts _ (wg_t kw_92)) (fun _ h9 => h9) (cd := (1, 8)) rfl dRG_transform_4 (fun v25 hv25 => ?_)
                  obtain rfl := (show v25 = .int (nI 8) from hv25)
                  refine mi_ge (tgt := 66) hx hb dRG_transform_7 (by decide) (by omega) (by omega) (fun h29 => absurd h29 (by omega)) (fun h29 => ?_)
                  refine lv_iconst (v := nI 1) hx hb dRG_transform_10 (by decide) ?_
                  refine lv_iload_n hx hb dRG_transform_11 rfl (lv_at hl 0 rfl) ?_
                  refine mi_ishl hx hb dRG_transform_12 (by decide) (by decide) ?_
                  refine mi_as (show nI (1 * 2 ^ 4) = nI 16 from rfl) ?_
                  refine lv_istore_n (lv' := [(3, .int (nI 16)), (2, .int (nI 4)), (5, .int (nI i24)), (4, .int (nI 16)), (0, .ref h0), (1, .ref f)]) hx hb dRG_transform_13 rfl hl (by decide) rfl (fun ls hl => ?_)
                  refine lv_sipush (v := nI 128) hx hb dRG_transform_14 (by decide) ?_
                  refine lv_iload_n hx hb dRG_transform_17 rfl (lv_at hl 1 rfl) ?_
                  refine mi_ishr hx hb dRG_transform_18 (by omega) (by decide) ?_
                  refine mi_as (show nI (128 / 2 ^ 4) = nI (8) from rfl) ?_
                  refine lv_istore (lv' := [(4, .int (nI 8)), (3, .int (nI 16)), (2, .int (nI 4)), (5, .int (nI i24)), (0, .ref h0), (1, .ref f)]) hx hb dRG_transform_19 hl (by decide) rfl (fun ls hl => ?_)
                  refine lv_iconst (v := nI 0) hx hb dRG_transform_21 (by decide) ?_
                  refine lv_istore (lv' := [(5, .int (nI 0)), (4, .int (nI 8)), (3, .int (nI 16)), (2, .int (nI 4)), (0, .ref h0), (1, .ref f)]) hx hb dRG_transform_22 hl (by decide) rfl (fun ls hl => ?_)
                  have lp25 : ∀ (n25 : Nat) (i25 : Nat) (s25 : Sto) (pl : va_W) (ls : Array Slot) (H : Heap) (locs : List Loc), n25 + i25 = 16 → frm (M_RG_transform_8 pf) s s25 → F_RG_transform_8 pf s = F_RG_transform_8_L4 pf n25 i25 s25 → lv_has ls 6 [(5, .int (nI i25)), (4, .int (nI 8)), (3, .int (nI 16)), (2, .int (nI 4)), (0, .ref h0), (1, .ref f)] → okn g T s25 pl → va_P g.1 vcl ([] ++ pl) H → va_D A ([] ++ pl) → va_S A s0.heap H locs → W p l e ({ frames := 1, cells := 0, slots := 0, locals := 29 } : Room) s0 m args below meth c H locs 0 0 (MQ below (va_Qv (fun (u : (Sto) × va_W) => (u.1 = F_RG_transform_8 pf s ∧ frm (M_RG_transform_8 pf) s u.1 ∧ True) ∧ okn g T u.1 u.2) (po g.1 vcl A (fun (u : (Sto) × va_W) => [] ++ u.2)) A) args s0 0 0 A) (F0 m 24 ls []) := by
                    intro n25
                    induction n25 with
                    | zero =>
                      intro i25 s25 pl ls H locs hm25 hF hR hl hO hP hD hS
                      refine lv_iload hx hb dRG_transform_24 (lv_at hl 0 rfl) ?_
                      refine lv_iload_n hx hb dRG_transform_26 rfl (lv_at hl 2 rfl) ?_
                      refine mi_ge (tgt := 60) hx hb dRG_transform_27 (by decide) (by omega) (by omega) (fun h30 => ?_) (fun h30 => absurd h30 (by omega))
                      refine mi_iinc (k := 3) (x := 4) (d := 1) (y := 5) (lv' := [(2, .int (nI 5)), (5, .int (nI i25)), (4, .int (nI 8)), (3, .int (nI 16)), (0, .ref h0), (1, .ref f)]) hx hb dRG_transform_60 hl rfl (by decide) rfl (by decide) rfl (fun ls hl => ?_)
                      refine lv_goto (tgt := 2) hx hb dRG_transform_63 (by decide) ?_
                      refine lv_iload_n hx hb dRG_transform_2 rfl (lv_at hl 0 rfl) ?_
                      refine lv_aload_n hx hb dRG_transform_3 rfl (lv_at hl 4 rfl) ?_
                      refine nw_get (C := "LatticeKeys$Ring") (TT := T_RG) (N := 4) hx hb hts (wg_ft i_RG) hown hK hO k_h0 (kn := 22) (ci := 4) (fl := [(1, 8380417), (1, 8), (1, 8347681), (3, 23)]) rfl hP rfl 1 (by decide) (hts _ (wg_t kw_92)) (fun _ h9 => h9) (cd := (1, 8)) rfl dRG_transform_4 (fun v26 hv26 => ?_)
                      obtain rfl := (show v26 = .int (nI 8) from hv26)
                      refine mi_ge (tgt := 66) hx hb dRG_transform_7 (by decide) (by omega) (by omega) (fun h31 => absurd h31 (by omega)) (fun h31 => ?_)
                      refine lv_iconst (v := nI 1) hx hb dRG_transform_10 (by decide) ?_
                      refine lv_iload_n hx hb dRG_transform_11 rfl (lv_at hl 0 rfl) ?_
                      refine mi_ishl hx hb dRG_transform_12 (by decide) (by decide) ?_
                      refine mi_as (show nI (1 * 2 ^ 5) = nI 32 from rfl) ?_
                      refine lv_istore_n (lv' := [(3, .int (nI 32)), (2, .int (nI 5)), (5, .int (nI i25)), (4, .int (nI 8)), (0, .ref h0), (1, .ref f)]) hx hb dRG_transform_13 rfl hl (by decide) rfl (fun ls hl => ?_)
                      refine lv_sipush (v := nI 128) hx hb dRG_transform_14 (by decide) ?_
                      refine lv_iload_n hx hb dRG_transform_17 rfl (lv_at hl 1 rfl) ?_
                      refine mi_ishr hx hb dRG_transform_18 (by omega) (by decide) ?_
                      refine mi_as (show nI (128 / 2 ^ 5) = nI (4) from rfl) ?_
                      refine lv_istore (lv' := [(4, .int (nI 4)), (3, .int (nI 32)), (2, .int (nI 5)), (5, .int (nI i25)), (0, .ref h0), (1, .ref f)]) hx hb dRG_transform_19 hl (by decide) rfl (fun ls hl => ?_)
                      refine lv_iconst (v := nI 0) hx hb dRG_transform_21 (by decide) ?_
                      refine lv_istore (lv' := [(5, .int (nI 0)), (4, .int (nI 4)), (3, .int (nI 32)), (2, .int (nI 5)), (0, .ref h0), (1, .ref f)]) hx hb dRG_transform_22 hl (by decide) rfl (fun ls hl => ?_)
                      have lp26 : ∀ (n26 : Nat) (i26 : Nat) (s26 : Sto) (pl : va_W) (ls : Array Slot) (H : Heap) (locs : List Loc), n26 + i26 = 32 → frm (M_RG_transform_8 pf) s s26 → F_RG_transform_8 pf s = F_RG_transform_8_L5 pf n26 i26 s26 → lv_has ls 6 [(5, .int (nI i26)), (4, .int (nI 4)), (3, .int (nI 32)), (2, .int (nI 5)), (0, .ref h0), (1, .ref f)] → okn g T s26 pl → va_P g.1 vcl ([] ++ pl) H → va_D A ([] ++ pl) → va_S A s0.heap H locs → W p l e ({ frames := 1, cells := 0, slots := 0, locals := 29 } : Room) s0 m args below meth c H locs 0 0 (MQ below (va_Qv (fun (u : (Sto) × va_W) => (u.1 = F_RG_transform_8 pf s ∧ frm (M_RG_transform_8 pf) s u.1 ∧ True) ∧ okn g T u.1 u.2) (po g.1 vcl A (fun (u : (Sto) × va_W) => [] ++ u.2)) A) args s0 0 0 A) (F0 m 24 ls []) := by
                        intro n26
                        induction n26 with
                        | zero =>
                          intro i26 s26 pl ls H locs hm26 hF hR hl hO hP hD hS
                          refine lv_iload hx hb dRG_transform_24 (lv_at hl 0 rfl) ?_
                          refine lv_iload_n hx hb dRG_transform_26 rfl (lv_at hl 2 rfl) ?_
                          refine mi_ge (tgt := 60) hx hb dRG_transform_27 (by decide) (by omega) (by omega) (fun h32 => ?_) (fun h32 => absurd h32 (by omega))
                          refine mi_iinc (k := 3) (x := 5) (d := 1) (y := 6) (lv' := [(2, .int (nI 6)), (5, .int (nI i26)), (4, .int (nI 4)), (3, .int (nI 32)), (0, .ref h0), (1, .ref f)]) hx hb dRG_transform_60 hl rfl (by decide) rfl (by decide) rfl (fun ls hl => ?_)
                          refine lv_goto (tgt := 2) hx hb dRG_transform_63 (by decide) ?_
                          refine lv_iload_n hx hb dRG_transform_2 rfl (lv_at hl 0 rfl) ?_
                          refine lv_aload_n hx hb dRG_transform_3 rfl (lv_at hl 4 rfl) ?_
                          refine nw_get (C := "LatticeKeys$Ring") (TT := T_RG) (N := 4) hx hb hts (wg_ft i_RG) hown hK hO k_h0 (kn := 22) (ci := 4) (fl := [(1, 8380417), (1, 8), (1, 8347681), (3, 23)]) rfl hP rfl 1 (by decide) (hts _ (wg_t kw_92)) (fun _ h9 => h9) (cd := (1, 8)) rfl dRG_transform_4 (fun v27 hv27 => ?_)
                          obtain rfl := (show v27 = .int (nI 8) from hv27)
                          refine mi_ge (tgt := 66) hx hb dRG_transform_7 (by decide) (by omega) (by omega) (fun h33 => absurd h33 (by omega)) (fun h33 => ?_)
                          refine lv_iconst (v := nI 1) hx hb dRG_transform_10 (by decide) ?_
                          refine lv_iload_n hx hb dRG_transform_11 rfl (lv_at hl 0 rfl) ?_
                          refine mi_ishl hx hb dRG_transform_12 (by decide) (by decide) ?_
                          refine mi_as (show nI (1 * 2 ^ 6) = nI 64 from rfl) ?_
                          refine lv_istore_n (lv' := [(3, .int (nI 64)), (2, .int (nI 6)), (5, .int (nI i26)), (4, .int (nI 4)), (0, .ref h0), (1, .ref f)]) hx hb dRG_transform_13 rfl hl (by decide) rfl (fun ls hl => ?_)
                          refine lv_sipush (v := nI 128) hx hb dRG_transform_14 (by decide) ?_
                          refine lv_iload_n hx hb dRG_transform_17 rfl (lv_at hl 1 rfl) ?_
                          refine mi_ishr hx hb dRG_transform_18 (by omega) (by decide) ?_
                          refine mi_as (show nI (128 / 2 ^ 6) = nI (2) from rfl) ?_
                          refine lv_istore (lv' := [(4, .int (nI 2)), (3, .int (nI 64)), (2, .int (nI 6)), (5, .int (nI i26)), (0, .ref h0), (1, .ref f)]) hx hb dRG_transform_19 hl (by decide) rfl (fun ls hl => ?_)
                          refine lv_iconst (v := nI 0) hx hb dRG_transform_21 (by decide) ?_
                          refine lv_istore (lv' := [(5, .int (nI 0)), (4, .int (nI 2)), (3, .int (nI 64)), (2, .int (nI 6)), (0, .ref h0), (1, .ref f)]) hx hb dRG_transform_22 hl (by decide) rfl (fun ls hl => ?_)
                          have lp27 : ∀ (n27 : Nat) (i27 : Nat) (s27 : Sto) (pl : va_W) (ls : Array Slot) (H : Heap) (locs : List Loc), n27 + i27 = 64 → frm (M_RG_transform_8 pf) s s27 → F_RG_transform_8 pf s = F_RG_transform_8_L6 pf n27 i27 s27 → lv_has ls 6 [(5, .int (nI i27)), (4, .int (nI 2)), (3, .int (nI 64)), (2, .int (nI 6)), (0, .ref h0), (1, .ref f)] → okn g T s27 pl → va_P g.1 vcl ([] ++ pl) H → va_D A ([] ++ pl) → va_S A s0.heap H locs → W p l e ({ frames := 1, cells := 0, slots := 0, locals := 29 } : Room) s0 m args below meth c H locs 0 0 (MQ below (va_Qv (fun (u : (Sto) × va_W) => (u.1 = F_RG_transform_8 pf s ∧ frm (M_RG_transform_8 pf) s u.1 ∧ True) ∧ okn g T u.1 u.2) (po g.1 vcl A (fun (u : (Sto) × va_W) => [] ++ u.2)) A) args s0 0 0 A) (F0 m 24 ls []) := by
                            intro n27
                            induction n27 with
                            | zero =>
                              intro i27 s27 pl ls H locs hm27 hF hR hl hO hP hD hS
                              refine lv_iload hx hb dRG_transform_24 (lv_at hl 0 rfl) ?_
                              refine lv_iload_n hx hb dRG_transform_26 rfl (lv_at hl 2 rfl) ?_
                              refine mi_ge (tgt := 60) hx hb dRG_transform_27 (by decide) (by omega) (by omega) (fun h34 => ?_) (fun h34 => absurd h34 (by omega))
                              refine mi_iinc (k := 3) (x := 6) (d := 1) (y := 7) (lv' := [(2, .int (nI 7)), (5, .int (nI i27)), (4, .int (nI 2)), (3, .int (nI 64)), (0, .ref h0), (1, .ref f)]) hx hb dRG_transform_60 hl rfl (by decide) rfl (by decide) rfl (fun ls hl => ?_)
                              refine lv_goto (tgt := 2) hx hb dRG_transform_63 (by decide) ?_
                              refine lv_iload_n hx hb dRG_transform_2 rfl (lv_at hl 0 rfl) ?_
                              refine lv_aload_n hx hb dRG_transform_3 rfl (lv_at hl 4 rfl) ?_
                              refine nw_get (C := "LatticeKeys$Ring") (TT := T_RG) (N := 4) hx hb hts (wg_ft i_RG) hown hK hO k_h0 (kn := 22) (ci := 4) (fl := [(1, 8380417), (1, 8), (1, 8347681), (3, 23)]) rfl hP rfl 1 (by decide) (hts _ (wg_t kw_92)) (fun _ h9 => h9) (cd := (1, 8)) rfl dRG_transform_4 (fun v28 hv28 => ?_)
                              obtain rfl := (show v28 = .int (nI 8) from hv28)
                              refine mi_ge (tgt := 66) hx hb dRG_transform_7 (by decide) (by omega) (by omega) (fun h35 => absurd h35 (by omega)) (fun h35 => ?_)
                              refine lv_iconst (v := nI 1) hx hb dRG_transform_10 (by decide) ?_
                              refine lv_iload_n hx hb dRG_transform_11 rfl (lv_at hl 0 rfl) ?_
                              refine mi_ishl hx hb dRG_transform_12 (by decide) (by decide) ?_
                              refine mi_as (show nI (1 * 2 ^ 7) = nI 128 from rfl) ?_
                              refine lv_istore_n (lv' := [(3, .int (nI 128)), (2, .int (nI 7)), (5, .int (nI i27)), (4, .int (nI 2)), (0, .ref h0), (1, .ref f)]) hx hb dRG_transform_13 rfl hl (by decide) rfl (fun ls hl => ?_)
                              refine lv_sipush (v := nI 128) hx hb dRG_transform_14 (by decide) ?_
                              refine lv_iload_n hx hb dRG_transform_17 rfl (lv_at hl 1 rfl) ?_
                              refine mi_ishr hx hb dRG_transform_18 (by omega) (by decide) ?_
                              refine mi_as (show nI (128 / 2 ^ 7) = nI (1) from rfl) ?_
                              refine lv_istore (lv' := [(4, .int (nI 1)), (3, .int (nI 128)), (2, .int (nI 7)), (5, .int (nI i27)), (0, .ref h0), (1, .ref f)]) hx hb dRG_transform_19 hl (by decide) rfl (fun ls hl => ?_)
                              refine lv_iconst (v := nI 0) hx hb dRG_transform_21 (by decide) ?_
                              refine lv_istore (lv' := [(5, .int (nI 0)), (4, .int (nI 1)), (3, .int (nI 128)), (2, .int (nI 7)), (0, .ref h0), (1, .ref f)]) hx hb dRG_transform_22 hl (by decide) rfl (fun ls hl => ?_)
                              have lp28 : ∀ (n28 : Nat) (i28 : Nat) (s28 : Sto) (pl : va_W) (ls : Array Slot) (H : Heap) (locs : List Loc), n28 + i28 = 128 → frm (M_RG_transform_8 pf) s s28 → F_RG_transform_8 pf s = F_RG_transform_8_L7 pf n28 i28 s28 → lv_has ls 6 [(5, .int (nI i28)), (4, .int (nI 1)), (3, .int (nI 128)), (2, .int (nI 7)), (0, .ref h0), (1, .ref f)] → okn g T s28 pl → va_P g.1 vcl ([] ++ pl) H → va_D A ([] ++ pl) → va_S A s0.heap H locs → W p l e ({ frames := 1, cells := 0, slots := 0, locals := 29 } : Room) s0 m args below meth c H locs 0 0 (MQ below (va_Qv (fun (u : (Sto) × va_W) => (u.1 = F_RG_transform_8 pf s ∧ frm (M_RG_transform_8 pf) s u.1 ∧ True) ∧ okn g T u.1 u.2) (po g.1 vcl A (fun (u : (Sto) × va_W) => [] ++ u.2)) A) args s0 0 0 A) (F0 m 24 ls []) := by
                                intro n28
                                induction n28 with
                                | zero =>
                                  intro i28 s28 pl ls H locs hm28 hF hR hl hO hP hD hS
                                  refine lv_iload hx hb dRG_transform_24 (lv_at hl 0 rfl) ?_
                                  refine lv_iload_n hx hb dRG_transform_26 rfl (lv_at hl 2 rfl) ?_
                                  refine mi_ge (tgt := 60) hx hb dRG_transform_27 (by decide) (by omega) (by omega) (fun h36 => ?_) (fun h36 => absurd h36 (by omega))
                                  refine mi_iinc (k := 3) (x := 7) (d := 1) (y := 8) (lv' := [(2, .int (nI 8)), (5, .int (nI i28)), (4, .int (nI 1)), (3, .int (nI 128)), (0, .ref h0), (1, .ref f)]) hx hb dRG_transform_60 hl rfl (by decide) rfl (by decide) rfl (fun ls hl => ?_)
                                  refine lv_goto (tgt := 2) hx hb dRG_transform_63 (by decide) ?_
                                  refine lv_iload_n hx hb dRG_transform_2 rfl (lv_at hl 0 rfl) ?_
                                  refine lv_aload_n hx hb dRG_transform_3 rfl (lv_at hl 4 rfl) ?_
                                  refine nw_get (C := "LatticeKeys$Ring") (TT := T_RG) (N := 4) hx hb hts (wg_ft i_RG) hown hK hO k_h0 (kn := 22) (ci := 4) (fl := [(1, 8380417), (1, 8), (1, 8347681), (3, 23)]) rfl hP rfl 1 (by decide) (hts _ (wg_t kw_92)) (fun _ h9 => h9) (cd := (1, 8)) rfl dRG_transform_4 (fun v29 hv29 => ?_)
                                  obtain rfl := (show v29 = .int (nI 8) from hv29)
                                  refine mi_ge (tgt := 66) hx hb dRG_transform_7 (by decide) (by omega) (by omega) (fun h37 => ?_) (fun h37 => absurd h37 (by omega))
                                  exact mp_vret hx hb hr hlk hP hD hS (s28, pl) ⟨⟨hR.symm, hF, trivial⟩, hO⟩ [] rfl rfl rfl (by omega) (by omega) dRG_transform_66
                                | succ n28 ih28 =>
                                  intro i28 s28 pl ls H locs hm28 hF hR hl hO hP hD hS
                                  refine lv_iload hx hb dRG_transform_24 (lv_at hl 0 rfl) ?_
                                  refine lv_iload_n hx hb dRG_transform_26 rfl (lv_at hl 2 rfl) ?_
                                  refine mi_ge (tgt := 60) hx hb dRG_transform_27 (by decide) (by omega) (by omega) (fun h38 => absurd h38 (by omega)) (fun h38 => ?_)
                                  refine lv_aload_n hx hb dRG_transform_30 rfl (lv_at hl 4 rfl) ?_
                                  refine lv_aload_n hx hb dRG_transform_31 rfl (lv_at hl 5 rfl) ?_
                                  refine lv_iconst (v := nI 2) hx hb dRG_transform_32 (by decide) ?_
                                  refine lv_iload hx hb dRG_transform_33 (lv_at hl 1 rfl) ?_
                                  refine mi_imul hx hb dRG_transform_35 ?_
                                  refine mi_as (show nI (2 * 1) = nI 2 from rfl) ?_
                                  refine lv_iload hx hb dRG_transform_36 (lv_at hl 0 rfl) ?_
                                  refine mi_imul hx hb dRG_transform_38 ?_
                                  refine lv_iload hx hb dRG_transform_39 (lv_at hl 1 rfl) ?_
                                  refine lv_aload_n hx hb dRG_transform_41 rfl (lv_at hl 4 rfl) ?_
                                  refine nw_get (C := "LatticeKeys$Ring") (TT := T_RG) (N := 4) hx hb hts (wg_ft i_RG) hown hK hO k_h0 (kn := 22) (ci := 4) (fl := [(1, 8380417), (1, 8), (1, 8347681), (3, 23)]) rfl hP rfl 3 (by decide) (hts _ (wg_t kw_94)) (fun _ h9 => h9) (cd := (3, 23)) rfl dRG_transform_42 (fun v30 hv30 => ?_)
                                  obtain ⟨r21, rfl, kr21⟩ := (show ∃ r : Nat, v30 = .ref r ∧ T r = some 23 from hv30)
                                  refine lv_iload_n hx hb dRG_transform_45 rfl (lv_at hl 2 rfl) ?_
                                  refine lv_iload hx hb dRG_transform_46 (lv_at hl 0 rfl) ?_
                                  refine mi_iadd hx hb dRG_transform_48 ?_
                                  refine nw_ialdT hx hb hK hO kr21 (k := 23) (d := 2) rfl hP (by omega) (by omega) dRG_transform_49 ?_
                                  refine lv_i2l hx hb dRG_transform_50 rfl ?_
                                  refine mp_v (cx := []) (wr := []) hP hD hS hA [] [] rfl rfl rfl (by decide) (va_runV (As := [.ref f, .int (nI (2 * i28)), .int (nI 1), .long ((ctI 2 (128 + i28)).toInt64)]) (rest := []) F (N_RG_spread_8 l g _ T s28 pl hO hU h0 f pf (2 * i28) 1 ((ctI 2 (128 + i28)).toInt64) k_h0 k_f n_f (by omega)) (cwV 4 hts (wg_app (wg_c kw_640 (wg_c kw_642 (wg_c ks_7 (wg_c kw_4 wg_n)))) kw_643) rfl rfl rfl (by decide +kernel) ⟨by decide, by decide⟩) (pn_W "LatticeKeys$Ring" (en_ok g) (ci := 4) (kn := 22) (fl := [(1, 8380417), (1, 8), (1, 8347681), (3, 23)]) hK hO k_h0 rfl hP hD hS hA hE [] rfl rfl rfl) rfl rfl hl.1 rfl (lv_room (Nat.le_of_ble_eq_true rfl)) dRG_transform_51 ⟨by omega, by omega⟩) (fun  u21 H locs hu21 hP hD hS => ?_)
                                  obtain ⟨s29, pl⟩ := u21
                                  obtain ⟨⟨eq21, hFc21, -⟩, hO⟩ := hu21
                                  have hO : okn g T s29 pl := hO
                                  have hP : va_P g.1 vcl ([] ++ pl) _ := hP
                                  have hD : va_D _ ([] ++ pl) := hD
                                  have hFc21 : frm (M_RG_spread_8 pf) s28 s29 := hFc21
                                  replace hR := bnd_step hR eq21
                                  have hF := frm_tr hF hFc21 (fun k hk => by unfold M_RG_spread_8 at hk; unfold M_RG_transform_8; omega)
                                  refine W.widen (k := 0) (n := 0) (by omega) (by omega) ?_
                                  refine mi_iinc (k := 0) (x := i28) (d := 1) (y := i28 + 1) (lv' := [(5, .int (nI (i28 + 1))), (4, .int (nI 1)), (3, .int (nI 128)), (2, .int (nI 7)), (0, .ref h0), (1, .ref f)]) hx hb dRG_transform_54 hl rfl (by decide) rfl (by decide) rfl (fun ls hl => ?_)
                                  refine lv_goto (tgt := 24) hx hb dRG_transform_57 (by decide) ?_
                                  exact ih28 (i28 + 1) s29 pl ls H locs (by omega) hF hR (lv_sub hl [0, 1, 2, 3, 4, 5] rfl) hO hP hD hS
                              exact lp28 128 0 s27 pl ls _ _ (by omega) hF hR (lv_sub hl [0, 1, 2, 3, 4, 5] rfl) hO hP hD hS
                            | succ n27 ih27 =>
                              intro i27 s27 pl ls H locs hm27 hF hR hl hO hP hD hS
                              refine lv_iload hx hb dRG_transform_24 (lv_at hl 0 rfl) ?_
                              refine lv_iload_n hx hb dRG_transform_26 rfl (lv_at hl 2 rfl) ?_
                              refine mi_ge (tgt := 60) hx hb dRG_transform_27 (by decide) (by omega) (by omega) (fun h39 => absurd h39 (by omega)) (fun h39 => ?_)
                              refine lv_aload_n hx hb dRG_transform_30 rfl (lv_at hl 4 rfl) ?_
                              refine lv_aload_n hx hb dRG_transform_31 rfl (lv_at hl 5 rfl) ?_
                              refine lv_iconst (v := nI 2) hx hb dRG_transform_32 (by decide) ?_
                              refine lv_iload hx hb dRG_transform_33 (lv_at hl 1 rfl) ?_
                              refine mi_imul hx hb dRG_transform_35 ?_
                              refine mi_as (show nI (2 * 2) = nI 4 from rfl) ?_
                              refine lv_iload hx hb dRG_transform_36 (lv_at hl 0 rfl) ?_
                              refine mi_imul hx hb dRG_transform_38 ?_
                              refine lv_iload hx hb dRG_transform_39 (lv_at hl 1 rfl) ?_
                              refine lv_aload_n hx hb dRG_transform_41 rfl (lv_at hl 4 rfl) ?_
                              refine nw_get (C := "LatticeKeys$Ring") (TT := T_RG) (N := 4) hx hb hts (wg_ft i_RG) hown hK hO k_h0 (kn := 22) (ci := 4) (fl := [(1, 8380417), (1, 8), (1, 8347681), (3, 23)]) rfl hP rfl 3 (by decide) (hts _ (wg_t kw_94)) (fun _ h9 => h9) (cd := (3, 23)) rfl dRG_transform_42 (fun v31 hv31 => ?_)
                              obtain ⟨r22, rfl, kr22⟩ := (show ∃ r : Nat, v31 = .ref r ∧ T r = some 23 from hv31)
                              refine lv_iload_n hx hb dRG_transform_45 rfl (lv_at hl 2 rfl) ?_
                              refine lv_iload hx hb dRG_transform_46 (lv_at hl 0 rfl) ?_
                              refine mi_iadd hx hb dRG_transform_48 ?_
                              refine nw_ialdT hx hb hK hO kr22 (k := 23) (d := 2) rfl hP (by omega) (by omega) dRG_transform_49 ?_
                              refine lv_i2l hx hb dRG_transform_50 rfl ?_
                              refine mp_v (cx := []) (wr := []) hP hD hS hA [] [] rfl rfl rfl (by decide) (va_runV (As := [.ref f, .int (nI (4 * i27)), .int (nI 2), .long ((ctI 2 (64 + i27)).toInt64)]) (rest := []) F (N_RG_spread_8 l g _ T s27 pl hO hU h0 f pf (4 * i27) 2 ((ctI 2 (64 + i27)).toInt64) k_h0 k_f n_f (by omega)) (cwV 4 hts (wg_app (wg_c kw_640 (wg_c kw_642 (wg_c ks_7 (wg_c kw_4 wg_n)))) kw_643) rfl rfl rfl (by decide +kernel) ⟨by decide, by decide⟩) (pn_W "LatticeKeys$Ring" (en_ok g) (ci := 4) (kn := 22) (fl := [(1, 8380417), (1, 8), (1, 8347681), (3, 23)]) hK hO k_h0 rfl hP hD hS hA hE [] rfl rfl rfl) rfl rfl hl.1 rfl (lv_room (Nat.le_of_ble_eq_true rfl)) dRG_transform_51 ⟨by omega, by omega⟩) (fun  u22 H locs hu22 hP hD hS => ?_)
                              obtain ⟨s30, pl⟩ := u22
                              obtain ⟨⟨eq22, hFc22, -⟩, hO⟩ := hu22
                              have hO : okn g T s30 pl := hO
                              have hP : va_P g.1 vcl ([] ++ pl) _ := hP
                              have hD : va_D _ ([] ++ pl) := hD
                              have hFc22 : frm (M_RG_spread_8 pf) s27 s30 := hFc22
                              replace hR := bnd_step hR eq22
                              have hF := frm_tr hF hFc22 (fun k hk => by unfold M_RG_spread_8 at hk; unfold M_RG_transform_8; omega)
                              refine W.widen (k := 0) (n := 0) (by omega) (by omega) ?_
                              refine mi_iinc (k := 0) (x := i27) (d := 1) (y := i27 + 1) (lv' := [(5, .int (nI (i27 + 1))), (4, .int (nI 2)), (3, .int (nI 64)), (2, .int (nI 6)), (0, .ref h0), (1, .ref f)]) hx hb dRG_transform_54 hl rfl (by decide) rfl (by decide) rfl (fun ls hl => ?_)
                              refine lv_goto (tgt := 24) hx hb dRG_transform_57 (by decide) ?_
                              exact ih27 (i27 + 1) s30 pl ls H locs (by omega) hF hR (lv_sub hl [0, 1, 2, 3, 4, 5] rfl) hO hP hD hS
                          exact lp27 64 0 s26 pl ls _ _ (by omega) hF hR (lv_sub hl [0, 1, 2, 3, 4, 5] rfl) hO hP hD hS
                        | succ n26 ih26 =>
                          intro i26 s26 pl ls H locs hm26 hF hR hl hO hP hD hS
                          refine lv_iload hx hb dRG_transform_24 (lv_at hl 0 rfl) ?_
                          refine lv_iload_n hx hb dRG_transform_26 rfl (lv_at hl 2 rfl) ?_
                          refine mi_ge (tgt := 60) hx hb dRG_transform_27 (by decide) (by omega) (by omega) (fun h40 => absurd h40 (by omega)) (fun h40 => ?_)
                          refine lv_aload_n hx hb dRG_transform_30 rfl (lv_at hl 4 rfl) ?_
                          refine lv_aload_n hx hb dRG_transform_31 rfl (lv_at hl 5 rfl) ?_
                          refine lv_iconst (v := nI 2) hx hb dRG_transform_32 (by decide) ?_
                          refine lv_iload hx hb dRG_transform_33 (lv_at hl 1 rfl) ?_
                          refine mi_imul hx hb dRG_transform_35 ?_
                          refine mi_as (show nI (2 * 4) = nI 8 from rfl) ?_
                          refine lv_iload hx hb dRG_transform_36 (lv_at hl 0 rfl) ?_
                          refine mi_imul hx hb dRG_transform_38 ?_
                          refine lv_iload hx hb dRG_transform_39 (lv_at hl 1 rfl) ?_
                          refine lv_aload_n hx hb dRG_transform_41 rfl (lv_at hl 4 rfl) ?_
                          refine nw_get (C := "LatticeKeys$Ring") (TT := T_RG) (N := 4) hx hb hts (wg_ft i_RG) hown hK hO k_h0 (kn := 22) (ci := 4) (fl := [(1, 8380417), (1, 8), (1, 8347681), (3, 23)]) rfl hP rfl 3 (by decide) (hts _ (wg_t kw_94)) (fun _ h9 => h9) (cd := (3, 23)) rfl dRG_transform_42 (fun v32 hv32 => ?_)
                          obtain ⟨r23, rfl, kr23⟩ := (show ∃ r : Nat, v32 = .ref r ∧ T r = some 23 from hv32)
                          refine lv_iload_n hx hb dRG_transform_45 rfl (lv_at hl 2 rfl) ?_
                          refine lv_iload hx hb dRG_transform_46 (lv_at hl 0 rfl) ?_
                          refine mi_iadd hx hb dRG_transform_48 ?_
                          refine nw_ialdT hx hb hK hO kr23 (k := 23) (d := 2) rfl hP (by omega) (by omega) dRG_transform_49 ?_
                          refine lv_i2l hx hb dRG_transform_50 rfl ?_
                          refine mp_v (cx := []) (wr := []) hP hD hS hA [] [] rfl rfl rfl (by decide) (va_runV (As := [.ref f, .int (nI (8 * i26)), .int (nI 4), .long ((ctI 2 (32 + i26)).toInt64)]) (rest := []) F (N_RG_spread_8 l g _ T s26 pl hO hU h0 f pf (8 * i26) 4 ((ctI 2 (32 + i26)).toInt64) k_h0 k_f n_f (by omega)) (cwV 4 hts (wg_app (wg_c kw_640 (wg_c kw_642 (wg_c ks_7 (wg_c kw_4 wg_n)))) kw_643) rfl rfl rfl (by decide +kernel) ⟨by decide, by decide⟩) (pn_W "LatticeKeys$Ring" (en_ok g) (ci := 4) (kn := 22) (fl := [(1, 8380417), (1, 8), (1, 8347681), (3, 23)]) hK hO k_h0 rfl hP hD hS hA hE [] rfl rfl rfl) rfl rfl hl.1 rfl (lv_room (Nat.le_of_ble_eq_true rfl)) dRG_transform_51 ⟨by omega, by omega⟩) (fun  u23 H locs hu23 hP hD hS => ?_)
                          obtain ⟨s31, pl⟩ := u23
                          obtain ⟨⟨eq23, hFc23, -⟩, hO⟩ := hu23
                          have hO : okn g T s31 pl := hO
                          have hP : va_P g.1 vcl ([] ++ pl) _ := hP
                          have hD : va_D _ ([] ++ pl) := hD
                          have hFc23 : frm (M_RG_spread_8 pf) s26 s31 := hFc23
                          replace hR := bnd_step hR eq23
                          have hF := frm_tr hF hFc23 (fun k hk => by unfold M_RG_spread_8 at hk; unfold M_RG_transform_8; omega)
                          refine W.widen (k := 0) (n := 0) (by omega) (by omega) ?_
                          refine mi_iinc (k := 0) (x := i26) (d := 1) (y := i26 + 1) (lv' := [(5, .int (nI (i26 + 1))), (4, .int (nI 4)), (3, .int (nI 32)), (2, .int (nI 5)), (0, .ref h0), (1, .ref f)]) hx hb dRG_transform_54 hl rfl (by decide) rfl (by decide) rfl (fun ls hl => ?_)
                          refine lv_goto (tgt := 24) hx hb dRG_transform_57 (by decide) ?_
                          exact ih26 (i26 + 1) s31 pl ls H locs (by omega) hF hR (lv_sub hl [0, 1, 2, 3, 4, 5] rfl) hO hP hD hS
                      exact lp26 32 0 s25 pl ls _ _ (by omega) hF hR (lv_sub hl [0, 1, 2, 3, 4, 5] rfl) hO hP hD hS
                    | succ n25 ih25 =>
                      intro i25 s25 pl ls H locs hm25 hF hR hl hO hP hD hS
                      refine lv_iload hx hb dRG_transform_24 (lv_at hl 0 rfl) ?_
                      refine lv_iload_n hx hb dRG_transform_26 rfl (lv_at hl 2 rfl) ?_
                      refine mi_ge (tgt := 60) hx hb dRG_transform_27 (by decide) (by omega) (by omega) (fun h41 => absurd h41 (by omega)) (fun h41 => ?_)
                      refine lv_aload_n hx hb dRG_transform_30 rfl (lv_at hl 4 rfl) ?_
                      refine lv_aload_n hx hb dRG_transform_31 rfl (lv_at hl 5 rfl) ?_
                      refine lv_iconst (v := nI 2) hx hb dRG_transform_32 (by decide) ?_
                      refine lv_iload hx hb dRG_transform_33 (lv_at hl 1 rfl) ?_
                      refine mi_imul hx hb dRG_transform_35 ?_
                      refine mi_as (show nI (2 * 8) = nI 16 from rfl) ?_
                      refine lv_iload hx hb dRG_transform_36 (lv_at hl 0 rfl) ?_
                      refine mi_imul hx hb dRG_transform_38 ?_
                      refine lv_iload hx hb dRG_transform_39 (lv_at hl 1 rfl) ?_
                      refine lv_aload_n hx hb dRG_transform_41 rfl (lv_at hl 4 rfl) ?_
                      refine nw_get (C := "LatticeKeys$Ring") (TT := T_RG) (N := 4) hx hb hts (wg_ft i_RG) hown hK hO k_h0 (kn := 22) (ci := 4) (fl := [(1, 8380417), (1, 8), (1, 8347681), (3, 23)]) rfl hP rfl 3 (by decide) (hts _ (wg_t kw_94)) (fun _ h9 => h9) (cd := (3, 23)) rfl dRG_transform_42 (fun v33 hv33 => ?_)
                      obtain ⟨r24, rfl, kr24⟩ := (show ∃ r : Nat, v33 = .ref r ∧ T r = some 23 from hv33)
                      refine lv_iload_n hx hb dRG_transform_45 rfl (lv_at hl 2 rfl) ?_
                      refine lv_iload hx hb dRG_transform_46 (lv_at hl 0 rfl) ?_
                      refine mi_iadd hx hb dRG_transform_48 ?_
                      refine nw_ialdT hx hb hK hO kr24 (k := 23) (d := 2) rfl hP (by omega) (by omega) dRG_transform_49 ?_
                      refine lv_i2l hx hb dRG_transform_50 rfl ?_
                      refine mp_v (cx := []) (wr := []) hP hD hS hA [] [] rfl rfl rfl (by decide) (va_runV (As := [.ref f, .int (nI (16 * i25)), .int (nI 8), .long ((ctI 2 (16 + i25)).toInt64)]) (rest := []) F (N_RG_spread_8 l g _ T s25 pl hO hU h0 f pf (16 * i25) 8 ((ctI 2 (16 + i25)).toInt64) k_h0 k_f n_f (by omega)) (cwV 4 hts (wg_app (wg_c kw_640 (wg_c kw_642 (wg_c ks_7 (wg_c kw_4 wg_n)))) kw_643) rfl rfl rfl (by decide +kernel) ⟨by decide, by decide⟩) (pn_W "LatticeKeys$Ring" (en_ok g) (ci := 4) (kn := 22) (fl := [(1, 8380417), (1, 8), (1, 8347681), (3, 23)]) hK hO k_h0 rfl hP hD hS hA hE [] rfl rfl rfl) rfl rfl hl.1 rfl (lv_room (Nat.le_of_ble_eq_true rfl)) dRG_transform_51 ⟨by omega, by omega⟩) (fun  u24 H locs hu24 hP hD hS => ?_)
                      obtain ⟨s32, pl⟩ := u24
                      obtain ⟨⟨eq24, hFc24, -⟩, hO⟩ := hu24
                      have hO : okn g T s32 pl := hO
                      have hP : va_P g.1 vcl ([] ++ pl) _ := hP
                      have hD : va_D _ ([] ++ pl) := hD
                      have hFc24 : frm (M_RG_spread_8 pf) s25 s32 := hFc24
                      replace hR := bnd_step hR eq24
                      have hF := frm_tr hF hFc24 (fun k hk => by unfold M_RG_spread_8 at hk; unfold M_RG_transform_8; omega)
                      refine W.widen (k := 0) (n := 0) (by omega) (by omega) ?_
                      refine mi_iinc (k := 0) (x := i25) (d := 1) (y := i25 + 1) (lv' := [(5, .int (nI (i25 + 1))), (4, .int (nI 8)), (3, .int (nI 16)), (2, .int (nI 4)), (0, .ref h0), (1, .ref f)]) hx hb dRG_transform_54 hl rfl (by decide) rfl (by decide) rfl (fun ls hl => ?_)
                      refine lv_goto (tgt := 24) hx hb dRG_transform_57 (by decide) ?_
                      exact ih25 (i25 + 1) s32 pl ls H locs (by omega) hF hR (lv_sub hl [0, 1, 2, 3, 4, 5] rfl) hO hP hD hS
                  exact lp25 16 0 s24 pl ls _ _ (by omega) hF hR (lv_sub hl [0, 1, 2, 3, 4, 5] rfl) hO hP hD hS
                | succ n24 ih24 =>
                  intro i24 s24 pl ls H locs hm24 hF hR hl hO hP hD hS
                  refine lv_iload hx hb dRG_transform_24 (lv_at hl 0 rfl) ?_
                  refine lv_iload_n hx hb dRG_transform_26 rfl (lv_at hl 2 rfl) ?_
                  refine mi_ge (tgt := 60) hx hb dRG_transform_27 (by decide) (by omega) (by omega) (fun h42 => absurd h42 (by omega)) (fun h42 => ?_)
                  refine lv_aload_n hx hb dRG_transform_30 rfl (lv_at hl 4 rfl) ?_
                  refine lv_aload_n hx hb dRG_transform_31 rfl (lv_at hl 5 rfl) ?_
                  refine lv_iconst (v := nI 2) hx hb dRG_transform_32 (by decide) ?_
                  refine lv_iload hx hb dRG_transform_33 (lv_at hl 1 rfl) ?_
                  refine mi_imul hx hb dRG_transform_35 ?_
                  refine mi_as (show nI (2 * 16) = nI 32 from rfl) ?_
                  refine lv_iload hx hb dRG_transform_36 (lv_at hl 0 rfl) ?_
                  refine mi_imul hx hb dRG_transform_38 ?_
                  refine lv_iload hx hb dRG_transform_39 (lv_at hl 1 rfl) ?_
                  refine lv_aload_n hx hb dRG_transform_41 rfl (lv_at hl 4 rfl) ?_
                  refine nw_get (C := "LatticeKeys$Ring") (TT := T_RG) (N := 4) hx hb hts (wg_ft i_RG) hown hK hO k_h0 (kn := 22) (ci := 4) (fl := [(1, 8380417), (1, 8), (1, 8347681), (3, 23)]) rfl hP rfl 3 (by decide) (hts _ (wg_t kw_94)) (fun _ h9 => h9) (cd := (3, 23)) rfl dRG_transform_42 (fun v34 hv34 => ?_)
                  obtain ⟨r25, rfl, kr25⟩ := (show ∃ r : Nat, v34 = .ref r ∧ T r = some 23 from hv34)
                  refine lv_iload_n hx hb dRG_transform_45 rfl (lv_at hl 2 rfl) ?_
                  refine lv_iload hx hb dRG_transform_46 (lv_at hl 0 rfl) ?_
                  refine mi_iadd hx hb dRG_transform_48 ?_
                  refine nw_ialdT hx hb hK hO kr25 (k := 23) (d := 2) rfl hP (by omega) (by omega) dRG_transform_49 ?_
                  refine lv_i2l hx hb dRG_transform_50 rfl ?_
                  refine mp_v (cx := []) (wr := []) hP hD hS hA [] [] rfl rfl rfl (by decide) (va_runV (As := [.ref f, .int (nI (32 * i24)), .int (nI 16), .long ((ctI 2 (8 + i24)).toInt64)]) (rest := []) F (N_RG_spread_8 l g _ T s24 pl hO hU h0 f pf (32 * i24) 16 ((ctI 2 (8 + i24)).toInt64) k_h0 k_f n_f (by omega)) (cwV 4 hts (wg_app (wg_c kw_640 (wg_c kw_642 (wg_c ks_7 (wg_c kw_4 wg_n)))) kw_643) rfl rfl rfl (by decide +kernel) ⟨by decide, by decide⟩) (pn_W "LatticeKeys$Ring" (en_ok g) (ci := 4) (kn := 22) (fl := [(1, 8380417), (1, 8), (1, 8347681), (3, 23)]) hK hO k_h0 rfl hP hD hS hA hE [] rfl rfl rfl) rfl rfl hl.1 rfl (lv_room (Nat.le_of_ble_eq_true rfl)) dRG_transform_51 ⟨by omega, by omega⟩) (fun  u25 H locs hu25 hP hD hS => ?_)
                  obtain ⟨s33, pl⟩ := u25
                  obtain ⟨⟨eq25, hFc25, -⟩, hO⟩ := hu25
                  have hO : okn g T s33 pl := hO
                  have hP : va_P g.1 vcl ([] ++ pl) _ := hP
                  have hD : va_D _ ([] ++ pl) := hD
                  have hFc25 : frm (M_RG_spread_8 pf) s24 s33 := hFc25
                  replace hR := bnd_step hR eq25
                  have hF := frm_tr hF hFc25 (fun k hk => by unfold M_RG_spread_8 at hk; unfold M_RG_transform_8; omega)
                  refine W.widen (k := 0) (n := 0) (by omega) (by omega) ?_
                  refine mi_iinc (k := 0) (x := i24) (d := 1) (y := i24 + 1) (lv' := [(5, .int (nI (i24 + 1))), (4, .int (nI 16)), (3, .int (nI 8)), (2, .int (nI 3)), (0, .ref h0), (1, .ref f)]) hx hb dRG_transform_54 hl rfl (by decide) rfl (by decide) rfl (fun ls hl => ?_)
                  refine lv_goto (tgt := 24) hx hb dRG_transform_57 (by decide) ?_
                  exact ih24 (i24 + 1) s33 pl ls H locs (by omega) hF hR (lv_sub hl [0, 1, 2, 3, 4, 5] rfl) hO hP hD hS
              exact lp24 8 0 s23 pl ls _ _ (by omega) hF hR (lv_sub hl [0, 1, 2, 3, 4, 5] rfl) hO hP hD hS
            | succ n23 ih23 =>
              intro i23 s23 pl ls H locs hm23 hF hR hl hO hP hD hS
              refine lv_iload hx hb dRG_transform_24 (lv_at hl 0 rfl) ?_
              refine lv_iload_n hx hb dRG_transform_26 rfl (lv_at hl 2 rfl) ?_
              refine mi_ge (tgt := 60) hx hb dRG_transform_27 (by decide) (by omega) (by omega) (fun h43 => absurd h43 (by omega)) (fun h43 => ?_)
              refine lv_aload_n hx hb dRG_transform_30 rfl (lv_at hl 4 rfl) ?_
              refine lv_aload_n hx hb dRG_transform_31 rfl (lv_at hl 5 rfl) ?_
              refine lv_iconst (v := nI 2) hx hb dRG_transform_32 (by decide) ?_
              refine lv_iload hx hb dRG_transform_33 (lv_at hl 1 rfl) ?_
              refine mi_imul hx hb dRG_transform_35 ?_
              refine mi_as (show nI (2 * 32) = nI 64 from rfl) ?_
              refine lv_iload hx hb dRG_transform_36 (lv_at hl 0 rfl) ?_
              refine mi_imul hx hb dRG_transform_38 ?_
              refine lv_iload hx hb dRG_transform_39 (lv_at hl 1 rfl) ?_
              refine lv_aload_n hx hb dRG_transform_41 rfl (lv_at hl 4 rfl) ?_
              refine nw_get (C := "LatticeKeys$Ring") (TT := T_RG) (N := 4) hx hb hts (wg_ft i_RG) hown hK hO k_h0 (kn := 22) (ci := 4) (fl := [(1, 8380417), (1, 8), (1, 8347681), (3, 23)]) rfl hP rfl 3 (by decide) (hts _ (wg_t kw_94)) (fun _ h9 => h9) (cd := (3, 23)) rfl dRG_transform_42 (fun v35 hv35 => ?_)
              obtain ⟨r26, rfl, kr26⟩ := (show ∃ r : Nat, v35 = .ref r ∧ T r = some 23 from hv35)
              refine lv_iload_n hx hb dRG_transform_45 rfl (lv_at hl 2 rfl) ?_
              refine lv_iload hx hb dRG_transform_46 (lv_at hl 0 rfl) ?_
              refine mi_iadd hx hb dRG_transform_48 ?_
              refine nw_ialdT hx hb hK hO kr26 (k := 23) (d := 2) rfl hP (by omega) (by omega) dRG_transform_49 ?_
              refine lv_i2l hx hb dRG_transform_50 rfl ?_
              refine mp_v (cx := []) (wr := []) hP hD hS hA [] [] rfl rfl rfl (by decide) (va_runV (As := [.ref f, .int (nI (64 * i23)), .int (nI 32), .long ((ctI 2 (4 + i23)).toInt64)]) (rest := []) F (N_RG_spread_8 l g _ T s23 pl hO hU h0 f pf (64 * i23) 32 ((ctI 2 (4 + i23)).toInt64) k_h0 k_f n_f (by omega)) (cwV 4 hts (wg_app (wg_c kw_640 (wg_c kw_642 (wg_c ks_7 (wg_c kw_4 wg_n)))) kw_643) rfl rfl rfl (by decide +kernel) ⟨by decide, by decide⟩) (pn_W "LatticeKeys$Ring" (en_ok g) (ci := 4) (kn := 22) (fl := [(1, 8380417), (1, 8), (1, 8347681), (3, 23)]) hK hO k_h0 rfl hP hD hS hA hE [] rfl rfl rfl) rfl rfl hl.1 rfl (lv_room (Nat.le_of_ble_eq_true rfl)) dRG_transform_51 ⟨by omega, by omega⟩) (fun  u26 H locs hu26 hP hD hS => ?_)
              obtain ⟨s34, pl⟩ := u26
              obtain ⟨⟨eq26, hFc26, -⟩, hO⟩ := hu26
              have hO : okn g T s34 pl := hO
              have hP : va_P g.1 vcl ([] ++ pl) _ := hP
              have hD : va_D _ ([] ++ pl) := hD
              have hFc26 : frm (M_RG_spread_8 pf) s23 s34 := hFc26
              replace hR := bnd_step hR eq26
              have hF := frm_tr hF hFc26 (fun k hk => by unfold M_RG_spread_8 at hk; unfold M_RG_transform_8; omega)
              refine W.widen (k := 0) (n := 0) (by omega) (by omega) ?_
              refine mi_iinc (k := 0) (x := i23) (d := 1) (y := i23 + 1) (lv' := [(5, .int (nI (i23 + 1))), (4, .int (nI 32)), (3, .int (nI 4)), (2, .int (nI 2)), (0, .ref h0), (1, .ref f)]) hx hb dRG_transform_54 hl rfl (by decide) rfl (by decide) rfl (fun ls hl => ?_)
              refine lv_goto (tgt := 24) hx hb dRG_transform_57 (by decide) ?_
              exact ih23 (i23 + 1) s34 pl ls H locs (by omega) hF hR (lv_sub hl [0, 1, 2, 3, 4, 5] rfl) hO hP hD hS
          exact lp23 4 0 s22 pl ls _ _ (by omega) hF hR (lv_sub hl [0, 1, 2, 3, 4, 5] rfl) hO hP hD hS
        | succ n22 ih22 =>
          intro i22 s22 pl ls H locs hm22 hF hR hl hO hP hD hS
          refine lv_iload hx hb dRG_transform_24 (lv_at hl 0 rfl) ?_
          refine lv_iload_n hx hb dRG_transform_26 rfl (lv_at hl 2 rfl) ?_
          refine mi_ge (tgt := 60) hx hb dRG_transform_27 (by decide) (by omega) (by omega) (fun h44 => absurd h44 (by omega)) (fun h44 => ?_)
          refine lv_aload_n hx hb dRG_transform_30 rfl (lv_at hl 4 rfl) ?_
          refine lv_aload_n hx hb dRG_transform_31 rfl (lv_at hl 5 rfl) ?_
          refine lv_iconst (v := nI 2) hx hb dRG_transform_32 (by decide) ?_
          refine lv_iload hx hb dRG_transform_33 (lv_at hl 1 rfl) ?_
          refine mi_imul hx hb dRG_transform_35 ?_
          refine mi_as (show nI (2 * 64) = nI 128 from rfl) ?_
          refine lv_iload hx hb dRG_transform_36 (lv_at hl 0 rfl) ?_
          refine mi_imul hx hb dRG_transform_38 ?_
          refine lv_iload hx hb dRG_transform_39 (lv_at hl 1 rfl) ?_
          refine lv_aload_n hx hb dRG_transform_41 rfl (lv_at hl 4 rfl) ?_
          refine nw_get (C := "LatticeKeys$Ring") (TT := T_RG) (N := 4) hx hb hts (wg_ft i_RG) hown hK hO k_h0 (kn := 22) (ci := 4) (fl := [(1, 8380417), (1, 8), (1, 8347681), (3, 23)]) rfl hP rfl 3 (by decide) (hts _ (wg_t kw_94)) (fun _ h9 => h9) (cd := (3, 23)) rfl dRG_transform_42 (fun v36 hv36 => ?_)
          obtain ⟨r27, rfl, kr27⟩ := (show ∃ r : Nat, v36 = .ref r ∧ T r = some 23 from hv36)
          refine lv_iload_n hx hb dRG_transform_45 rfl (lv_at hl 2 rfl) ?_
          refine lv_iload hx hb dRG_transform_46 (lv_at hl 0 rfl) ?_
          refine mi_iadd hx hb dRG_transform_48 ?_
          refine nw_ialdT hx hb hK hO kr27 (k := 23) (d := 2) rfl hP (by omega) (by omega) dRG_transform_49 ?_
          refine lv_i2l hx hb dRG_transform_50 rfl ?_
          refine mp_v (cx := []) (wr := []) hP hD hS hA [] [] rfl rfl rfl (by decide) (va_runV (As := [.ref f, .int (nI (128 * i22)), .int (nI 64), .long ((ctI 2 (2 + i22)).toInt64)]) (rest := []) F (N_RG_spread_8 l g _ T s22 pl hO hU h0 f pf (128 * i22) 64 ((ctI 2 (2 + i22)).toInt64) k_h0 k_f n_f (by omega)) (cwV 4 hts (wg_app (wg_c kw_640 (wg_c kw_642 (wg_c ks_7 (wg_c kw_4 wg_n)))) kw_643) rfl rfl rfl (by decide +kernel) ⟨by decide, by decide⟩) (pn_W "LatticeKeys$Ring" (en_ok g) (ci := 4) (kn := 22) (fl := [(1, 8380417), (1, 8), (1, 8347681), (3, 23)]) hK hO k_h0 rfl hP hD hS hA hE [] rfl rfl rfl) rfl rfl hl.1 rfl (lv_room (Nat.le_of_ble_eq_true rfl)) dRG_transform_51 ⟨by omega, by omega⟩) (fun  u27 H locs hu27 hP hD hS => ?_)
          obtain ⟨s35, pl⟩ := u27
          obtain ⟨⟨eq27, hFc27, -⟩, hO⟩ := hu27
          have hO : okn g T s35 pl := hO
          have hP : va_P g.1 vcl ([] ++ pl) _ := hP
          have hD : va_D _ ([] ++ pl) := hD
          have hFc27 : frm (M_RG_spread_8 pf) s22 s35 := hFc27
          replace hR := bnd_step hR eq27
          have hF := frm_tr hF hFc27 (fun k hk => by unfold M_RG_spread_8 at hk; unfold M_RG_transform_8; omega)
          refine W.widen (k := 0) (n := 0) (by omega) (by omega) ?_
          refine mi_iinc (k := 0) (x := i22) (d := 1) (y := i22 + 1) (lv' := [(5, .int (nI (i22 + 1))), (4, .int (nI 64)), (3, .int (nI 2)), (2, .int (nI 1)), (0, .ref h0), (1, .ref f)]) hx hb dRG_transform_54 hl rfl (by decide) rfl (by decide) rfl (fun ls hl => ?_)
          refine lv_goto (tgt := 24) hx hb dRG_transform_57 (by decide) ?_
          exact ih22 (i22 + 1) s35 pl ls H locs (by omega) hF hR (lv_sub hl [0, 1, 2, 3, 4, 5] rfl) hO hP hD hS
      exact lp22 2 0 s21 pl ls _ _ (by omega) hF hR (lv_sub hl [0, 1, 2, 3, 4, 5] rfl) hO hP hD hS
    | succ n21 ih21 =>
      intro i21 s21 pl ls H locs hm21 hF hR hl hO hP hD hS
      refine lv_iload hx hb dRG_transform_24 (lv_at hl 0 rfl) ?_
      refine lv_iload_n hx hb dRG_transform_26 rfl (lv_at hl 2 rfl) ?_
      refine mi_ge (tgt := 60) hx hb dRG_transform_27 (by decide) (by omega) (by omega) (fun h45 => absurd h45 (by omega)) (fun h45 => ?_)
      refine lv_aload_n hx hb dRG_transform_30 rfl (lv_at hl 4 rfl) ?_
      refine lv_aload_n hx hb dRG_transform_31 rfl (lv_at hl 5 rfl) ?_
      refine lv_iconst (v := nI 2) hx hb dRG_transform_32 (by decide) ?_
      refine lv_iload hx hb dRG_transform_33 (lv_at hl 1 rfl) ?_
      refine mi_imul hx hb dRG_transform_35 ?_
      refine mi_as (show nI (2 * 128) = nI 256 from rfl) ?_
      refine lv_iload hx hb dRG_transform_36 (lv_at hl 0 rfl) ?_
      refine mi_imul hx hb dRG_transform_38 ?_
      refine lv_iload hx hb dRG_transform_39 (lv_at hl 1 rfl) ?_
      refine lv_aload_n hx hb dRG_transform_41 rfl (lv_at hl 4 rfl) ?_
      refine nw_get (C := "LatticeKeys$Ring") (TT := T_RG) (N := 4) hx hb hts (wg_ft i_RG) hown hK hO k_h0 (kn := 22) (ci := 4) (fl := [(1, 8380417), (1, 8), (1, 8347681), (3, 23)]) rfl hP rfl 3 (by decide) (hts _ (wg_t kw_94)) (fun _ h9 => h9) (cd := (3, 23)) rfl dRG_transform_42 (fun v37 hv37 => ?_)
      obtain ⟨r28, rfl, kr28⟩ := (show ∃ r : Nat, v37 = .ref r ∧ T r = some 23 from hv37)
      refine lv_iload_n hx hb dRG_transform_45 rfl (lv_at hl 2 rfl) ?_
      refine lv_iload hx hb dRG_transform_46 (lv_at hl 0 rfl) ?_
      refine mi_iadd hx hb dRG_transform_48 ?_
      refine nw_ialdT hx hb hK hO kr28 (k := 23) (d := 2) rfl hP (by omega) (by omega) dRG_transform_49 ?_
      refine lv_i2l hx hb dRG_transform_50 rfl ?_
      refine mp_v (cx := []) (wr := []) hP hD hS hA [] [] rfl rfl rfl (by decide) (va_runV (As := [.ref f, .int (nI (256 * i21)), .int (nI 128), .long ((ctI 2 (1 + i21)).toInt64)]) (rest := []) F (N_RG_spread_8 l g _ T s21 pl hO hU h0 f pf (256 * i21) 128 ((ctI 2 (1 + i21)).toInt64) k_h0 k_f n_f (by omega)) (cwV 4 hts (wg_app (wg_c kw_640 (wg_c kw_642 (wg_c ks_7 (wg_c kw_4 wg_n)))) kw_643) rfl rfl rfl (by decide +kernel) ⟨by decide, by decide⟩) (pn_W "LatticeKeys$Ring" (en_ok g) (ci := 4) (kn := 22) (fl := [(1, 8380417), (1, 8), (1, 8347681), (3, 23)]) hK hO k_h0 rfl hP hD hS hA hE [] rfl rfl rfl) rfl rfl hl.1 rfl (lv_room (Nat.le_of_ble_eq_true rfl)) dRG_transform_51 ⟨by omega, by omega⟩) (fun  u28 H locs hu28 hP hD hS => ?_)
      obtain ⟨s36, pl⟩ := u28
      obtain ⟨⟨eq28, hFc28, -⟩, hO⟩ := hu28
      have hO : okn g T s36 pl := hO
      have hP : va_P g.1 vcl ([] ++ pl) _ := hP
      have hD : va_D _ ([] ++ pl) := hD
      have hFc28 : frm (M_RG_spread_8 pf) s21 s36 := hFc28
      replace hR := bnd_step hR eq28
      have hF := frm_tr hF hFc28 (fun k hk => by unfold M_RG_spread_8 at hk; unfold M_RG_transform_8; omega)
      refine W.widen (k := 0) (n := 0) (by omega) (by omega) ?_
      refine mi_iinc (k := 0) (x := i21) (d := 1) (y := i21 + 1) (lv' := [(5, .int (nI (i21 + 1))), (4, .int (nI 128)), (3, .int (nI 1)), (2, .int (nI 0)), (0, .ref h0), (1, .ref f)]) hx hb dRG_transform_54 hl rfl (by decide) rfl (by decide) rfl (fun ls hl => ?_)
      refine lv_goto (tgt := 24) hx hb dRG_transform_57 (by decide) ?_
      exact ih21 (i21 + 1) s36 pl ls H locs (by omega) hF hR (lv_sub hl [0, 1, 2, 3, 4, 5] rfl) hO hP hD hS
  exact lp21 1 0 s pl ls _ _ (by omega) hF hR (lv_sub hl [0, 1, 2, 3, 4, 5] rfl) hO hP hD hS
def M_RG_restore_7 (pf : Nat) (k : Nat) : Prop := k = pf ∨ (0 : Nat) = 1
noncomputable def F_RG_restore_7_L7 (pf : Nat) : Nat → Nat → Sto → Sto
  | 0, i28, s28 => s28
  | n28 + 1, i28, s28 => bnd (sI s28 pf i28 (((((s28.1 pf i28).toInt64) * ((nI 3303).toInt64)) - (((s28.1 pf i28).toInt64) * ((nI 3303).toInt64)) / ((nI 3329).toInt64) * ((nI 3329).toInt64)).toInt32)) fun s29 => F_RG_restore_7_L7 pf n28 (i28 + 1) s29
noncomputable def F_RG_restore_7_L6 (pf : Nat) : Nat → Nat → Sto → Sto
  | 0, i27, s27 => F_RG_restore_7_L7 pf 256 0 s27
  | n27 + 1, i27, s27 => bnd (F_RG_gather_7 pf (256 * i27) 128 ((ctI 1 (1 - i27)).toInt64) s27) fun s30 => F_RG_restore_7_L6 pf n27 (i27 + 1) s30
noncomputable def F_RG_restore_7_L5 (pf : Nat) : Nat → Nat → Sto → Sto
  | 0, i26, s26 => F_RG_restore_7_L6 pf 1 0 s26
  | n26 + 1, i26, s26 => bnd (F_RG_gather_7 pf (128 * i26) 64 ((ctI 1 (3 - i26)).toInt64) s26) fun s31 => F_RG_restore_7_L5 pf n26 (i26 + 1) s31
noncomputable def F_RG_restore_7_L4 (pf : Nat) : Nat → Nat → Sto → Sto
  | 0, i25, s25 => F_RG_restore_7_L5 pf 2 0 s25
  | n25 + 1, i25, s25 => bnd (F_RG_gather_7 pf (64 * i25) 32 ((ctI 1 (7 - i25)).toInt64) s25) fun s32 => F_RG_restore_7_L4 pf n25 (i25 + 1) s32
noncomputable def F_RG_restore_7_L3 (pf : Nat) : Nat → Nat → Sto → Sto
  | 0, i24, s24 => F_RG_restore_7_L4 pf 4 0 s24
  | n24 + 1, i24, s24 => bnd (F_RG_gather_7 pf (32 * i24) 16 ((ctI 1 (15 - i24)).toInt64) s24) fun s33 => F_RG_restore_7_L3 pf n24 (i24 + 1) s33
noncomputable def F_RG_restore_7_L2 (pf : Nat) : Nat → Nat → Sto → Sto
  | 0, i23, s23 => F_RG_restore_7_L3 pf 8 0 s23
  | n23 + 1, i23, s23 => bnd (F_RG_gather_7 pf (16 * i23) 8 ((ctI 1 (31 - i23)).toInt64) s23) fun s34 => F_RG_restore_7_L2 pf n23 (i23 + 1) s34
noncomputable def F_RG_restore_7_L1 (pf : Nat) : Nat → Nat → Sto → Sto
  | 0, i22, s22 => F_RG_restore_7_L2 pf 16 0 s22
  | n22 + 1, i22, s22 => bnd (F_RG_gather_7 pf (8 * i22) 4 ((ctI 1 (63 - i22)).toInt64) s22) fun s35 => F_RG_restore_7_L1 pf n22 (i22 + 1) s35
noncomputable def F_RG_restore_7_L0 (pf : Nat) : Nat → Nat → Sto → Sto
  | 0, i21, s21 => F_RG_restore_7_L1 pf 32 0 s21
  | n21 + 1, i21, s21 => bnd (F_RG_gather_7 pf (4 * i21) 2 ((ctI 1 (127 - i21)).toInt64) s21) fun s36 => F_RG_restore_7_L0 pf n21 (i21 + 1) s36
noncomputable def F_RG_restore_7 (pf : Nat) (s : Sto) : Sto := F_RG_restore_7_L0 pf 64 0 s
set_option maxHeartbeats 400000 in
set_option maxRecDepth 100000 in
theorem N_RG_restore_7 (l : Launch) (g : Gd) (sz : Nat) (T : TyN) (s : Sto) (pl : va_W) (hO : okn g T s pl) (hU : inj T) (h0 f : Nat) (pf : Nat) (k_h0 : T h0 = some 20) (k_f : T f = some pf) (n_f : nsp pf = (0, 256, []))  : Met l y_RG_restore w_RG_restore ({ frames := 1, cells := 0, slots := 0, locals := 28 } : Room) (va_Pc [.ref h0, .ref f] (pr (en g) g.1 vcl sz ([] ++ pl))) (va_Qv (fun (u : (Sto) × va_W) => (u.1 = F_RG_restore_7 pf s ∧ frm (M_RG_restore_7 pf) s u.1 ∧ True) ∧ okn g T u.1 u.2) (po g.1 vcl (va_A ([] ++ pl) sz) (fun (u : (Sto) × va_W) => [] ++ u.2)) (va_A ([] ++ pl) sz)) 0 0 (va_A ([] ++ pl) sz) := by
  refine mc_entry (cc := c_RG_restore) (maxL := 6) (ret := none) (by decide) rfl (Nat.le_of_ble_eq_true rfl) ?_
  intro p e s0 m args below meth c ls F hr hlk hnm hsz hP hD hE hA hl
  obtain ⟨hx, hb, hml, hown, hts⟩ := id F
  have hK := hE.1
  generalize va_A ([] ++ pl) sz = A at hD hE hA ⊢
  have hS : va_S A s0.heap s0.heap [] := va_S.rf
  have hl : lv_has ls 6 [(0, .ref h0), (1, .ref f)] := hl
  have hR : F_RG_restore_7 pf s = F_RG_restore_7 pf s := rfl
  have hF : frm (M_RG_restore_7 pf) s s := frm_rf
  refine lv_aload_n hx hb dRG_restore_0 rfl (lv_at hl 0 rfl) ?_
  refine nw_get (C := "LatticeKeys$Ring") (TT := T_RG) (N := 4) hx hb hts (wg_ft i_RG) hown hK hO k_h0 (kn := 20) (ci := 4) (fl := [(1, 3329), (1, 7), (1, 3303), (3, 21)]) rfl hP rfl 1 (by decide) (hts _ (wg_t kw_92)) (fun _ h9 => h9) (cd := (1, 7)) rfl dRG_restore_1 (fun v21 hv21 => ?_)
  obtain rfl := (show v21 = .int (nI 7) from hv21)
  refine lv_iconst (v := nI 1) hx hb dRG_restore_4 (by decide) ?_
  refine mi_isub hx hb dRG_restore_5 (by omega) ?_
  refine mi_as (show nI (7 - 1) = nI 6 from rfl) ?_
  refine lv_istore_n (lv' := [(2, .int (nI 6)), (0, .ref h0), (1, .ref f)]) hx hb dRG_restore_6 rfl hl (by decide) rfl (fun ls hl => ?_)
  refine lv_iload_n hx hb dRG_restore_7 rfl (lv_at hl 0 rfl) ?_
  refine lv_if_lt (tgt := 71) hx hb dRG_restore_8 (by decide) (fun h21 => absurd h21 (by decide)) (fun h21 => ?_)
  refine lv_iconst (v := nI 1) hx hb dRG_restore_11 (by decide) ?_
  refine lv_iload_n hx hb dRG_restore_12 rfl (lv_at hl 0 rfl) ?_
  refine mi_ishl hx hb dRG_restore_13 (by decide) (by decide) ?_
  refine mi_as (show nI (1 * 2 ^ 6) = nI 64 from rfl) ?_
  refine lv_istore_n (lv' := [(3, .int (nI 64)), (2, .int (nI 6)), (0, .ref h0), (1, .ref f)]) hx hb dRG_restore_14 rfl hl (by decide) rfl (fun ls hl => ?_)
  refine lv_sipush (v := nI 128) hx hb dRG_restore_15 (by decide) ?_
  refine lv_iload_n hx hb dRG_restore_18 rfl (lv_at hl 1 rfl) ?_
  refine mi_ishr hx hb dRG_restore_19 (by omega) (by decide) ?_
  refine mi_as (show nI (128 / 2 ^ 6) = nI (2) from rfl) ?_
  refine lv_istore (lv' := [(4, .int (nI 2)), (3, .int (nI 64)), (2, .int (nI 6)), (0, .ref h0), (1, .ref f)]) hx hb dRG_restore_20 hl (by decide) rfl (fun ls hl => ?_)
  refine lv_iconst (v := nI 0) hx hb dRG_restore_22 (by decide) ?_
  refine lv_istore (lv' := [(5, .int (nI 0)), (4, .int (nI 2)), (3, .int (nI 64)), (2, .int (nI 6)), (0, .ref h0), (1, .ref f)]) hx hb dRG_restore_23 hl (by decide) rfl (fun ls hl => ?_)
  have lp21 : ∀ (n21 : Nat) (i21 : Nat) (s21 : Sto) (pl : va_W) (ls : Array Slot) (H : Heap) (locs : List Loc), n21 + i21 = 64 → frm (M_RG_restore_7 pf) s s21 → F_RG_restore_7 pf s = F_RG_restore_7_L0 pf n21 i21 s21 → lv_has ls 6 [(5, .int (nI i21)), (4, .int (nI 2)), (3, .int (nI 64)), (2, .int (nI 6)), (0, .ref h0), (1, .ref f)] → okn g T s21 pl → va_P g.1 vcl ([] ++ pl) H → va_D A ([] ++ pl) → va_S A s0.heap H locs → W p l e ({ frames := 1, cells := 0, slots := 0, locals := 28 } : Room) s0 m args below meth c H locs 0 0 (MQ below (va_Qv (fun (u : (Sto) × va_W) => (u.1 = F_RG_restore_7 pf s ∧ frm (M_RG_restore_7 pf) s u.1 ∧ True) ∧ okn g T u.1 u.2) (po g.1 vcl A (fun (u : (Sto) × va_W) => [] ++ u.2)) A) args s0 0 0 A) (F0 m 25 ls []) := by
    intro n21
    induction n21 with
    | zero =>
      intro i21 s21 pl ls H locs hm21 hF hR hl hO hP hD hS
      refine lv_iload hx hb dRG_restore_25 (lv_at hl 0 rfl) ?_
      refine lv_iload_n hx hb dRG_restore_27 rfl (lv_at hl 2 rfl) ?_
      refine mi_ge (tgt := 65) hx hb dRG_restore_28 (by decide) (by omega) (by omega) (fun h22 => ?_) (fun h22 => absurd h22 (by omega))
      refine lv_iinc (k := 3) (v := nI 5) (lv' := [(2, .int (nI 5)), (5, .int (nI i21)), (4, .int (nI 2)), (3, .int (nI 64)), (0, .ref h0), (1, .ref f)]) hx hb dRG_restore_65 hl rfl (by decide) (by decide) rfl (fun ls hl => ?_)
      refine lv_goto (tgt := 7) hx hb dRG_restore_68 (by decide) ?_
      refine lv_iload_n hx hb dRG_restore_7 rfl (lv_at hl 0 rfl) ?_
      refine lv_if_lt (tgt := 71) hx hb dRG_restore_8 (by decide) (fun h23 => absurd h23 (by decide)) (fun h23 => ?_)
      refine lv_iconst (v := nI 1) hx hb dRG_restore_11 (by decide) ?_
      refine lv_iload_n hx hb dRG_restore_12 rfl (lv_at hl 0 rfl) ?_
      refine mi_ishl hx hb dRG_restore_13 (by decide) (by decide) ?_
      refine mi_as (show nI (1 * 2 ^ 5) = nI 32 from rfl) ?_
      refine lv_istore_n (lv' := [(3, .int (nI 32)), (2, .int (nI 5)), (5, .int (nI i21)), (4, .int (nI 2)), (0, .ref h0), (1, .ref f)]) hx hb dRG_restore_14 rfl hl (by decide) rfl (fun ls hl => ?_)
      refine lv_sipush (v := nI 128) hx hb dRG_restore_15 (by decide) ?_
      refine lv_iload_n hx hb dRG_restore_18 rfl (lv_at hl 1 rfl) ?_
      refine mi_ishr hx hb dRG_restore_19 (by omega) (by decide) ?_
      refine mi_as (show nI (128 / 2 ^ 5) = nI (4) from rfl) ?_
      refine lv_istore (lv' := [(4, .int (nI 4)), (3, .int (nI 32)), (2, .int (nI 5)), (5, .int (nI i21)), (0, .ref h0), (1, .ref f)]) hx hb dRG_restore_20 hl (by decide) rfl (fun ls hl => ?_)
      refine lv_iconst (v := nI 0) hx hb dRG_restore_22 (by decide) ?_
      refine lv_istore (lv' := [(5, .int (nI 0)), (4, .int (nI 4)), (3, .int (nI 32)), (2, .int (nI 5)), (0, .ref h0), (1, .ref f)]) hx hb dRG_restore_23 hl (by decide) rfl (fun ls hl => ?_)
      have lp22 : ∀ (n22 : Nat) (i22 : Nat) (s22 : Sto) (pl : va_W) (ls : Array Slot) (H : Heap) (locs : List Loc), n22 + i22 = 32 → frm (M_RG_restore_7 pf) s s22 → F_RG_restore_7 pf s = F_RG_restore_7_L1 pf n22 i22 s22 → lv_has ls 6 [(5, .int (nI i22)), (4, .int (nI 4)), (3, .int (nI 32)), (2, .int (nI 5)), (0, .ref h0), (1, .ref f)] → okn g T s22 pl → va_P g.1 vcl ([] ++ pl) H → va_D A ([] ++ pl) → va_S A s0.heap H locs → W p l e ({ frames := 1, cells := 0, slots := 0, locals := 28 } : Room) s0 m args below meth c H locs 0 0 (MQ below (va_Qv (fun (u : (Sto) × va_W) => (u.1 = F_RG_restore_7 pf s ∧ frm (M_RG_restore_7 pf) s u.1 ∧ True) ∧ okn g T u.1 u.2) (po g.1 vcl A (fun (u : (Sto) × va_W) => [] ++ u.2)) A) args s0 0 0 A) (F0 m 25 ls []) := by
        intro n22
        induction n22 with
        | zero =>
          intro i22 s22 pl ls H locs hm22 hF hR hl hO hP hD hS
          refine lv_iload hx hb dRG_restore_25 (lv_at hl 0 rfl) ?_
          refine lv_iload_n hx hb dRG_restore_27 rfl (lv_at hl 2 rfl) ?_
          refine mi_ge (tgt := 65) hx hb dRG_restore_28 (by decide) (by omega) (by omega) (fun h24 => ?_) (fun h24 => absurd h24 (by omega))
          refine lv_iinc (k := 3) (v := nI 4) (lv' := [(2, .int (nI 4)), (5, .int (nI i22)), (4, .int (nI 4)), (3, .int (nI 32)), (0, .ref h0), (1, .ref f)]) hx hb dRG_restore_65 hl rfl (by decide) (by decide) rfl (fun ls hl => ?_)
          refine lv_goto (tgt := 7) hx hb dRG_restore_68 (by decide) ?_
          refine lv_iload_n hx hb dRG_restore_7 rfl (lv_at hl 0 rfl) ?_
          refine lv_if_lt (tgt := 71) hx hb dRG_restore_8 (by decide) (fun h25 => absurd h25 (by decide)) (fun h25 => ?_)
          refine lv_iconst (v := nI 1) hx hb dRG_restore_11 (by decide) ?_
          refine lv_iload_n hx hb dRG_restore_12 rfl (lv_at hl 0 rfl) ?_
          refine mi_ishl hx hb dRG_restore_13 (by decide) (by decide) ?_
          refine mi_as (show nI (1 * 2 ^ 4) = nI 16 from rfl) ?_
          refine lv_istore_n (lv' := [(3, .int (nI 16)), (2, .int (nI 4)), (5, .int (nI i22)), (4, .int (nI 4)), (0, .ref h0), (1, .ref f)]) hx hb dRG_restore_14 rfl hl (by decide) rfl (fun ls hl => ?_)
          refine lv_sipush (v := nI 128) hx hb dRG_restore_15 (by decide) ?_
          refine lv_iload_n hx hb dRG_restore_18 rfl (lv_at hl 1 rfl) ?_
          refine mi_ishr hx hb dRG_restore_19 (by omega) (by decide) ?_
          refine mi_as (show nI (128 / 2 ^ 4) = nI (8) from rfl) ?_
          refine lv_istore (lv' := [(4, .int (nI 8)), (3, .int (nI 16)), (2, .int (nI 4)), (5, .int (nI i22)), (0, .ref h0), (1, .ref f)]) hx hb dRG_restore_20 hl (by decide) rfl (fun ls hl => ?_)
          refine lv_iconst (v := nI 0) hx hb dRG_restore_22 (by decide) ?_
          refine lv_istore (lv' := [(5, .int (nI 0)), (4, .int (nI 8)), (3, .int (nI 16)), (2, .int (nI 4)), (0, .ref h0), (1, .ref f)]) hx hb dRG_restore_23 hl (by decide) rfl (fun ls hl => ?_)
          have lp23 : ∀ (n23 : Nat) (i23 : Nat) (s23 : Sto) (pl : va_W) (ls : Array Slot) (H : Heap) (locs : List Loc), n23 + i23 = 16 → frm (M_RG_restore_7 pf) s s23 → F_RG_restore_7 pf s = F_RG_restore_7_L2 pf n23 i23 s23 → lv_has ls 6 [(5, .int (nI i23)), (4, .int (nI 8)), (3, .int (nI 16)), (2, .int (nI 4)), (0, .ref h0), (1, .ref f)] → okn g T s23 pl → va_P g.1 vcl ([] ++ pl) H → va_D A ([] ++ pl) → va_S A s0.heap H locs → W p l e ({ frames := 1, cells := 0, slots := 0, locals := 28 } : Room) s0 m args below meth c H locs 0 0 (MQ below (va_Qv (fun (u : (Sto) × va_W) => (u.1 = F_RG_restore_7 pf s ∧ frm (M_RG_restore_7 pf) s u.1 ∧ True) ∧ okn g T u.1 u.2) (po g.1 vcl A (fun (u : (Sto) × va_W) => [] ++ u.2)) A) args s0 0 0 A) (F0 m 25 ls []) := by
            intro n23
            induction n23 with
            | zero =>
              intro i23 s23 pl ls H locs hm23 hF hR hl hO hP hD hS
              refine lv_iload hx hb dRG_restore_25 (lv_at hl 0 rfl) ?_
              refine lv_iload_n hx hb dRG_restore_27 rfl (lv_at hl 2 rfl) ?_
              refine mi_ge (tgt := 65) hx hb dRG_restore_28 (by decide) (by omega) (by omega) (fun h26 => ?_) (fun h26 => absurd h26 (by omega))
              refine lv_iinc (k := 3) (v := nI 3) (lv' := [(2, .int (nI 3)), (5, .int (nI i23)), (4, .int (nI 8)), (3, .int (nI 16)), (0, .ref h0), (1, .ref f)]) hx hb dRG_restore_65 hl rfl (by decide) (by decide) rfl (fun ls hl => ?_)
              refine lv_goto (tgt := 7) hx hb dRG_restore_68 (by decide) ?_
              refine lv_iload_n hx hb dRG_restore_7 rfl (lv_at hl 0 rfl) ?_
              refine lv_if_lt (tgt := 71) hx hb dRG_restore_8 (by decide) (fun h27 => absurd h27 (by decide)) (fun h27 => ?_)
              refine lv_iconst (v := nI 1) hx hb dRG_restore_11 (by decide) ?_
              refine lv_iload_n hx hb dRG_restore_12 rfl (lv_at hl 0 rfl) ?_
              refine mi_ishl hx hb dRG_restore_13 (by decide) (by decide) ?_
              refine mi_as (show nI (1 * 2 ^ 3) = nI 8 from rfl) ?_
              refine lv_istore_n (lv' := [(3, .int (nI 8)), (2, .int (nI 3)), (5, .int (nI i23)), (4, .int (nI 8)), (0, .ref h0), (1, .ref f)]) hx hb dRG_restore_14 rfl hl (by decide) rfl (fun ls hl => ?_)
              refine lv_sipush (v := nI 128) hx hb dRG_restore_15 (by decide) ?_
              refine lv_iload_n hx hb dRG_restore_18 rfl (lv_at hl 1 rfl) ?_
              refine mi_ishr hx hb dRG_restore_19 (by omega) (by decide) ?_
              refine mi_as (show nI (128 / 2 ^ 3) = nI (16) from rfl) ?_
              refine lv_istore (lv' := [(4, .int (nI 16)), (3, .int (nI 8)), (2, .int (nI 3)), (5, .int (nI i23)), (0, .ref h0), (1, .ref f)]) hx hb dRG_restore_20 hl (by decide) rfl (fun ls hl => ?_)
              refine lv_iconst (v := nI 0) hx hb dRG_restore_22 (by decide) ?_
              refine lv_istore (lv' := [(5, .int (nI 0)), (4, .int (nI 16)), (3, .int (nI 8)), (2, .int (nI 3)), (0, .ref h0), (1, .ref f)]) hx hb dRG_restore_23 hl (by decide) rfl (fun ls hl => ?_)
              have lp24 : ∀ (n24 : Nat) (i24 : Nat) (s24 : Sto) (pl : va_W) (ls : Array Slot) (H : Heap) (locs : List Loc), n24 + i24 = 8 → frm (M_RG_restore_7 pf) s s24 → F_RG_restore_7 pf s = F_RG_restore_7_L3 pf n24 i24 s24 → lv_has ls 6 [(5, .int (nI i24)), (4, .int (nI 16)), (3, .int (nI 8)), (2, .int (nI 3)), (0, .ref h0), (1, .ref f)] → okn g T s24 pl → va_P g.1 vcl ([] ++ pl) H → va_D A ([] ++ pl) → va_S A s0.heap H locs → W p l e ({ frames := 1, cells := 0, slots := 0, locals := 28 } : Room) s0 m args below meth c H locs 0 0 (MQ below (va_Qv (fun (u : (Sto) × va_W) => (u.1 = F_RG_restore_7 pf s ∧ frm (M_RG_restore_7 pf) s u.1 ∧ True) ∧ okn g T u.1 u.2) (po g.1 vcl A (fun (u : (Sto) × va_W) => [] ++ u.2)) A) args s0 0 0 A) (F0 m 25 ls []) := by
                intro n24
                induction n24 with
                | zero =>
                  intro i24 s24 pl ls H locs hm24 hF hR hl hO hP hD hS
                  refine lv_iload hx hb dRG_restore_25 (lv_at hl 0 rfl) ?_
                  refine lv_iload_n hx hb dRG_restore_27 rfl (lv_at hl 2 rfl) ?_
                  refine mi_ge (tgt := 65) hx hb dRG_restore_28 (by decide) (by omega) (by omega) (fun h28 => ?_) (fun h28 => absurd h28 (by omega))
                  refine lv_iinc (k := 3) (v := nI 2) (lv' := [(2, .int (nI 2)), (5, .int (nI i24)), (4, .int (nI 16)), (3, .int (nI 8)), (0, .ref h0), (1, .ref f)]) hx hb dRG_restore_65 hl rfl (by decide) (by decide) rfl (fun ls hl => ?_)
                  refine lv_goto (tgt := 7) hx hb dRG_restore_68 (by decide) ?_
                  refine lv_iload_n hx hb dRG_restore_7 rfl (lv_at hl 0 rfl) ?_
                  refine lv_if_lt (tgt := 71) hx hb dRG_restore_8 (by decide) (fun h29 => absurd h29 (by decide)) (fun h29 => ?_)
                  refine lv_iconst (v := nI 1) hx hb dRG_restore_11 (by decide) ?_
                  refine lv_iload_n hx hb dRG_restore_12 rfl (lv_at hl 0 rfl) ?_
                  refine mi_ishl hx hb dRG_restore_13 (by decide) (by decide) ?_
                  refine mi_as (show nI (1 * 2 ^ 2) = nI 4 from rfl) ?_
                  refine lv_istore_n (lv' := [(3, .int (nI 4)), (2, .int (nI 2)), (5, .int (nI i24)), (4, .int (nI 16)), (0, .ref h0), (1, .ref f)]) hx hb dRG_restore_14 rfl hl (by decide) rfl (fun ls hl => ?_)
                  refine lv_sipush (v := nI 128) hx hb dRG_restore_15 (by decide) ?_
                  refine lv_iload_n hx hb dRG_restore_18 rfl (lv_at hl 1 rfl) ?_
                  refine mi_ishr hx hb dRG_restore_19 (by omega) (by decide) ?_
                  refine mi_as (show nI (128 / 2 ^ 2) = nI (32) from rfl) ?_
                  refine lv_istore (lv' := [(4, .int (nI 32)), (3, .int (nI 4)), (2, .int (nI 2)), (5, .int (nI i24)), (0, .ref h0), (1, .ref f)]) hx hb dRG_restore_20 hl (by decide) rfl (fun ls hl => ?_)
                  refine lv_iconst (v := nI 0) hx hb dRG_restore_22 (by decide) ?_
                  refine lv_istore (lv' := [(5, .int (nI 0)), (4, .int (nI 32)), (3, .int (nI 4)), (2, .int (nI 2)), (0, .ref h0), (1, .ref f)]) hx hb dRG_restore_23 hl (by decide) rfl (fun ls hl => ?_)
                  have lp25 : ∀ (n25 : Nat) (i25 : Nat) (s25 : Sto) (pl : va_W) (ls : Array Slot) (H : Heap) (locs : List Loc), n25 + i25 = 4 → frm (M_RG_restore_7 pf) s s25 → F_RG_restore_7 pf s = F_RG_restore_7_L4 pf n25 i25 s25 → lv_has ls 6 [(5, .int (nI i25)), (4, .int (nI 32)), (3, .int (nI 4)), (2, .int (nI 2)), (0, .ref h0), (1, .ref f)] → okn g T s25 pl → va_P g.1 vcl ([] ++ pl) H → va_D A ([] ++ pl) → va_S A s0.heap H locs → W p l e ({ frames := 1, cells := 0, slots := 0, locals := 28 } : Room) s0 m args below meth c H locs 0 0 (MQ below (va_Qv (fun (u : (Sto) × va_W) => (u.1 = F_RG_restore_7 pf s ∧ frm (M_RG_restore_7 pf) s u.1 ∧ True) ∧ okn g T u.1 u.2) (po g.1 vcl A (fun (u : (Sto) × va_W) => [] ++ u.2)) A) args s0 0 0 A) (F0 m 25 ls []) := by
                    intro n25
                    induction n25 with
                    | zero =>
                      intro i25 s25 pl ls H locs hm25 hF hR hl hO hP hD hS
                      refine lv_iload hx hb dRG_restore_25 (lv_at hl 0 rfl) ?_
                      refine lv_iload_n hx hb dRG_restore_27 rfl (lv_at hl 2 rfl) ?_
                      refine mi_ge (tgt := 65) hx hb dRG_restore_28 (by decide) (by omega) (by omega) (fun h30 => ?_) (fun h30 => absurd h30 (by omega))
                      refine lv_iinc (k := 3) (v := nI 1) (lv' := [(2, .int (nI 1)), (5, .int (nI i25)), (4, .int (nI 32)), (3, .int (nI 4)), (0, .ref h0), (1, .ref f)]) hx hb dRG_restore_65 hl rfl (by decide) (by decide) rfl (fun ls hl => ?_)
                      refine lv_goto (tgt := 7) hx hb dRG_restore_68 (by decide) ?_
                      refine lv_iload_n hx hb dRG_restore_7 rfl (lv_at hl 0 rfl) ?_
                      refine lv_if_lt (tgt := 71) hx hb dRG_restore_8 (by decide) (fun h31 => absurd h31 (by decide)) (fun h31 => ?_)
                      refine lv_iconst (v := nI 1) hx hb dRG_restore_11 (by decide) ?_
                      refine lv_iload_n hx hb dRG_restore_12 rfl (lv_at hl 0 rfl) ?_
                      refine mi_ishl hx hb dRG_restore_13 (by decide) (by decide) ?_
                      refine mi_as (show nI (1 * 2 ^ 1) = nI 2 from rfl) ?_
                      refine lv_istore_n (lv' := [(3, .int (nI 2)), (2, .int (nI 1)), (5, .int (nI i25)), (4, .int (nI 32)), (0, .ref h0), (1, .ref f)]) hx hb dRG_restore_14 rfl hl (by decide) rfl (fun ls hl => ?_)
                      refine lv_sipush (v := nI 128) hx hb dRG_restore_15 (by decide) ?_
                      refine lv_iload_n hx hb dRG_restore_18 rfl (lv_at hl 1 rfl) ?_
                      refine mi_ishr hx hb dRG_restore_19 (by omega) (by decide) ?_
                      refine mi_as (show nI (128 / 2 ^ 1) = nI (64) from rfl) ?_
                      refine lv_istore (lv' := [(4, .int (nI 64)), (3, .int (nI 2)), (2, .int (nI 1)), (5, .int (nI i25)), (0, .ref h0), (1, .ref f)]) hx hb dRG_restore_20 hl (by decide) rfl (fun ls hl => ?_)
                      refine lv_iconst (v := nI 0) hx hb dRG_restore_22 (by decide) ?_
                      refine lv_istore (lv' := [(5, .int (nI 0)), (4, .int (nI 64)), (3, .int (nI 2)), (2, .int (nI 1)), (0, .ref h0), (1, .ref f)]) hx hb dRG_restore_23 hl (by decide) rfl (fun ls hl => ?_)
                      have lp26 : ∀ (n26 : Nat) (i26 : Nat) (s26 : Sto) (pl : va_W) (ls : Array Slot) (H : Heap) (locs : List Loc), n26 + i26 = 2 → frm (M_RG_restore_7 pf) s s26 → F_RG_restore_7 pf s = F_RG_restore_7_L5 pf n26 i26 s26 → lv_has ls 6 [(5, .int (nI i26)), (4, .int (nI 64)), (3, .int (nI 2)), (2, .int (nI 1)), (0, .ref h0), (1, .ref f)] → okn g T s26 pl → va_P g.1 vcl ([] ++ pl) H → va_D A ([] ++ pl) → va_S A s0.heap H locs → W p l e ({ frames := 1, cells := 0, slots := 0, locals := 28 } : Room) s0 m args below meth c H locs 0 0 (MQ below (va_Qv (fun (u : (Sto) × va_W) => (u.1 = F_RG_restore_7 pf s ∧ frm (M_RG_restore_7 pf) s u.1 ∧ True) ∧ okn g T u.1 u.2) (po g.1 vcl A (fun (u : (Sto) × va_W) => [] ++ u.2)) A) args s0 0 0 A) (F0 m 25 ls []) := by
                        intro n26
                        induction n26 with
                        | zero =>
                          intro i26 s26 pl ls H locs hm26 hF hR hl hO hP hD hS
                          refine lv_iload hx hb dRG_restore_25 (lv_at hl 0 rfl) ?_
                          refine lv_iload_n hx hb dRG_restore_27 rfl (lv_at hl 2 rfl) ?_
                          refine mi_ge (tgt := 65) hx hb dRG_restore_28 (by decide) (by omega) (by omega) (fun h32 => ?_) (fun h32 => absurd h32 (by omega))
                          refine lv_iinc (k := 3) (v := nI 0) (lv' := [(2, .int (nI 0)), (5, .int (nI i26)), (4, .int (nI 64)), (3, .int (nI 2)), (0, .ref h0), (1, .ref f)]) hx hb dRG_restore_65 hl rfl (by decide) (by decide) rfl (fun ls hl => ?_)
                          refine lv_goto (tgt := 7) hx hb dRG_restore_68 (by decide) ?_
                          refine lv_iload_n hx hb dRG_restore_7 rfl (lv_at hl 0 rfl) ?_
                          refine lv_if_lt (tgt := 71) hx hb dRG_restore_8 (by decide) (fun h33 => absurd h33 (by decide)) (fun h33 => ?_)
                          refine lv_iconst (v := nI 1) hx hb dRG_restore_11 (by decide) ?_
                          refine lv_iload_n hx hb dRG_restore_12 rfl (lv_at hl 0 rfl) ?_
                          refine mi_ishl hx hb dRG_restore_13 (by decide) (by decide) ?_
                          refine mi_as (show nI (1 * 2 ^ 0) = nI 1 from rfl) ?_
                          refine lv_istore_n (lv' := [(3, .int (nI 1)), (2, .int (nI 0)), (5, .int (nI i26)), (4, .int (nI 64)), (0, .ref h0), (1, .ref f)]) hx hb dRG_restore_14 rfl hl (by decide) rfl (fun ls hl => ?_)
                          refine lv_sipush (v := nI 128) hx hb dRG_restore_15 (by decide) ?_
                          refine lv_iload_n hx hb dRG_restore_18 rfl (lv_at hl 1 rfl) ?_
                          refine mi_ishr hx hb dRG_restore_19 (by omega) (by decide) ?_
                          refine mi_as (show nI (128 / 2 ^ 0) = nI (128) from rfl) ?_
                          refine lv_istore (lv' := [(4, .int (nI 128)), (3, .int (nI 1)), (2, .int (nI 0)), (5, .int (nI i26)), (0, .ref h0), (1, .ref f)]) hx hb dRG_restore_20 hl (by decide) rfl (fun ls hl => ?_)
                          refine lv_iconst (v := nI 0) hx hb dRG_restore_22 (by decide) ?_
                          refine lv_istore (lv' := [(5, .int (nI 0)), (4, .int (nI 128)), (3, .int (nI 1)), (2, .int (nI 0)), (0, .ref h0), (1, .ref f)]) hx hb dRG_restore_23 hl (by decide) rfl (fun ls hl => ?_)
                          have lp27 : ∀ (n27 : Nat) (i27 : Nat) (s27 : Sto) (pl : va_W) (ls : Array Slot) (H : Heap) (locs : List Loc), n27 + i27 = 1 → frm (M_RG_restore_7 pf) s s27 → F_RG_restore_7 pf s = F_RG_restore_7_L6 pf n27 i27 s27 → lv_has ls 6 [(5, .int (nI i27)), (4, .int (nI 128)), (3, .int (nI 1)), (2, .int (nI 0)), (0, .ref h0), (1, .ref f)] → okn g T s27 pl → va_P g.1 vcl ([] ++ pl) H → va_D A ([] ++ pl) → va_S A s0.heap H locs → W p l e ({ frames := 1, cells := 0, slots := 0, locals := 28 } : Room) s0 m args below meth c H locs 0 0 (MQ below (va_Qv (fun (u : (Sto) × va_W) => (u.1 = F_RG_restore_7 pf s ∧ frm (M_RG_restore_7 pf) s u.1 ∧ True) ∧ okn g T u.1 u.2) (po g.1 vcl A (fun (u : (Sto) × va_W) => [] ++ u.2)) A) args s0 0 0 A) (F0 m 25 ls []) := by
                            intro n27
                            induction n27 with
                            | zero =>
                              intro i27 s27 pl ls H locs hm27 hF hR hl hO hP hD hS
                              refine lv_iload hx hb dRG_restore_25 (lv_at hl 0 rfl) ?_
                              refine lv_iload_n hx hb dRG_restore_27 rfl (lv_at hl 2 rfl) ?_
                              refine mi_ge (tgt := 65) hx hb dRG_restore_28 (by decide) (by omega) (by omega) (fun h34 => ?_) (fun h34 => absurd h34 (by omega))
                              refine lv_iinc (k := 3) (v := (-1)) (lv' := [(2, .int (-1)), (5, .int (nI i27)), (4, .int (nI 128)), (3, .int (nI 1)), (0, .ref h0), (1, .ref f)]) hx hb dRG_restore_65 hl rfl (by decide) (by decide) rfl (fun ls hl => ?_)
                              refine lv_goto (tgt := 7) hx hb dRG_restore_68 (by decide) ?_
                              refine lv_iload_n hx hb dRG_restore_7 rfl (lv_at hl 0 rfl) ?_
                              refine lv_if_lt (tgt := 71) hx hb dRG_restore_8 (by decide) (fun h35 => ?_) (fun h35 => absurd h35 (by decide))
                              refine lv_iconst (v := nI 0) hx hb dRG_restore_71 (by decide) ?_
                              refine lv_istore_n (lv' := [(2, .int (nI 0)), (5, .int (nI i27)), (4, .int (nI 128)), (3, .int (nI 1)), (0, .ref h0), (1, .ref f)]) hx hb dRG_restore_72 rfl hl (by decide) rfl (fun ls hl => ?_)
                              have lp28 : ∀ (n28 : Nat) (i28 : Nat) (s28 : Sto) (pl : va_W) (ls : Array Slot) (H : Heap) (locs : List Loc), n28 + i28 = 256 → frm (M_RG_restore_7 pf) s s28 → F_RG_restore_7 pf s = F_RG_restore_7_L7 pf n28 i28 s28 → lv_has ls 6 [(2, .int (nI i28)), (0, .ref h0), (1, .ref f)] → okn g T s28 pl → va_P g.1 vcl ([] ++ pl) H → va_D A ([] ++ pl) → va_S A s0.heap H locs → W p l e ({ frames := 1, cells := 0, slots := 0, locals := 28 } : Room) s0 m args below meth c H locs 0 0 (MQ below (va_Qv (fun (u : (Sto) × va_W) => (u.1 = F_RG_restore_7 pf s ∧ frm (M_RG_restore_7 pf) s u.1 ∧ True) ∧ okn g T u.1 u.2) (po g.1 vcl A (fun (u : (Sto) × va_W) => [] ++ u.2)) A) args s0 0 0 A) (F0 m 73 ls []) := by
                                intro n28
                                induction n28 with
                                | zero =>
                                  intro i28 s28 pl ls H locs hm28 hF hR hl hO hP hD hS
                                  refine lv_iload_n hx hb dRG_restore_73 rfl (lv_at hl 0 rfl) ?_
                                  refine lv_sipush (v := nI 256) hx hb dRG_restore_74 (by decide) ?_
                                  refine mi_ge (tgt := 106) hx hb dRG_restore_77 (by decide) (by omega) (by omega) (fun h36 => ?_) (fun h36 => absurd h36 (by omega))
                                  exact mp_vret hx hb hr hlk hP hD hS (s28, pl) ⟨⟨hR.symm, hF, trivial⟩, hO⟩ [] rfl rfl rfl (by omega) (by omega) dRG_restore_106
                                | succ n28 ih28 =>
                                  intro i28 s28 pl ls H locs hm28 hF hR hl hO hP hD hS
                                  refine lv_iload_n hx hb dRG_restore_73 rfl (lv_at hl 0 rfl) ?_
                                  refine lv_sipush (v := nI 256) hx hb dRG_restore_74 (by decide) ?_
                                  refine mi_ge (tgt := 106) hx hb dRG_restore_77 (by decide) (by omega) (by omega) (fun h37 => absurd h37 (by omega)) (fun h37 => ?_)
                                  refine lv_aload_n hx hb dRG_restore_80 rfl (lv_at hl 2 rfl) ?_
                                  refine lv_iload_n hx hb dRG_restore_81 rfl (lv_at hl 0 rfl) ?_
                                  refine lv_aload_n hx hb dRG_restore_82 rfl (lv_at hl 2 rfl) ?_
                                  refine lv_iload_n hx hb dRG_restore_83 rfl (lv_at hl 0 rfl) ?_
                                  refine nw_iald hx hb hK hO k_f (k := pf) n_f hP (by omega) (by omega) dRG_restore_84 ?_
                                  refine lv_i2l hx hb dRG_restore_85 rfl ?_
                                  refine lv_aload_n hx hb dRG_restore_86 rfl (lv_at hl 1 rfl) ?_
                                  refine nw_get (C := "LatticeKeys$Ring") (TT := T_RG) (N := 4) hx hb hts (wg_ft i_RG) hown hK hO k_h0 (kn := 20) (ci := 4) (fl := [(1, 3329), (1, 7), (1, 3303), (3, 21)]) rfl hP rfl 2 (by decide) (hts _ (wg_t kw_93)) (fun _ h9 => h9) (cd := (1, 3303)) rfl dRG_restore_87 (fun v22 hv22 => ?_)
                                  obtain rfl := (show v22 = .int (nI 3303) from hv22)
                                  refine lv_i2l hx hb dRG_restore_90 rfl ?_
                                  refine lv_lmul hx hb dRG_restore_91 ?_
                                  refine lv_aload_n hx hb dRG_restore_92 rfl (lv_at hl 1 rfl) ?_
                                  refine nw_get (C := "LatticeKeys$Ring") (TT := T_RG) (N := 4) hx hb hts (wg_ft i_RG) hown hK hO k_h0 (kn := 20) (ci := 4) (fl := [(1, 3329), (1, 7), (1, 3303), (3, 21)]) rfl hP rfl 0 (by decide) (hts _ (wg_t kw_91)) (fun _ h9 => h9) (cd := (1, 3329)) rfl dRG_restore_93 (fun v23 hv23 => ?_)
                                  obtain rfl := (show v23 = .int (nI 3329) from hv23)
                                  refine lv_i2l hx hb dRG_restore_96 rfl ?_
                                  refine lv_lrem hx hb dRG_restore_97 (by decide) ?_
                                  refine lv_l2i hx hb dRG_restore_98 rfl ?_
                                  refine nw_iast hx hb hK hO hU k_f (k := pf) n_f hP hD hS (by omega) (by omega) dRG_restore_99 (fun s29 pl H locs es21 hO hP hD hS => ?_)
                                  replace hR := bnd_step hR es21
                                  have hF := frm_sI hF es21 (by unfold M_RG_restore_7; omega)
                                  refine mi_iinc (k := 0) (x := i28) (d := 1) (y := i28 + 1) (lv' := [(2, .int (nI (i28 + 1))), (0, .ref h0), (1, .ref f)]) hx hb dRG_restore_100 hl rfl (by decide) rfl (by decide) rfl (fun ls hl => ?_)
                                  refine lv_goto (tgt := 73) hx hb dRG_restore_103 (by decide) ?_
                                  exact ih28 (i28 + 1) s29 pl ls H locs (by omega) hF hR (lv_sub hl [0, 1, 2] rfl) hO hP hD hS
                              exact lp28 256 0 s27 pl ls _ _ (by omega) hF hR (lv_sub hl [0, 4, 5] rfl) hO hP hD hS
                            | succ n27 ih27 =>
                              intro i27 s27 pl ls H locs hm27 hF hR hl hO hP hD hS
                              refine lv_iload hx hb dRG_restore_25 (lv_at hl 0 rfl) ?_
                              refine lv_iload_n hx hb dRG_restore_27 rfl (lv_at hl 2 rfl) ?_
                              refine mi_ge (tgt := 65) hx hb dRG_restore_28 (by decide) (by omega) (by omega) (fun h38 => absurd h38 (by omega)) (fun h38 => ?_)
                              refine lv_aload_n hx hb dRG_restore_31 rfl (lv_at hl 4 rfl) ?_
                              refine lv_aload_n hx hb dRG_restore_32 rfl (lv_at hl 5 rfl) ?_
                              refine lv_iconst (v := nI 2) hx hb dRG_restore_33 (by decide) ?_
                              refine lv_iload hx hb dRG_restore_34 (lv_at hl 1 rfl) ?_
                              refine mi_imul hx hb dRG_restore_36 ?_
                              refine mi_as (show nI (2 * 128) = nI 256 from rfl) ?_
                              refine lv_iload hx hb dRG_restore_37 (lv_at hl 0 rfl) ?_
                              refine mi_imul hx hb dRG_restore_39 ?_
                              refine lv_iload hx hb dRG_restore_40 (lv_at hl 1 rfl) ?_
                              refine lv_aload_n hx hb dRG_restore_42 rfl (lv_at hl 4 rfl) ?_
                              refine nw_get (C := "LatticeKeys$Ring") (TT := T_RG) (N := 4) hx hb hts (wg_ft i_RG) hown hK hO k_h0 (kn := 20) (ci := 4) (fl := [(1, 3329), (1, 7), (1, 3303), (3, 21)]) rfl hP rfl 3 (by decide) (hts _ (wg_t kw_94)) (fun _ h9 => h9) (cd := (3, 21)) rfl dRG_restore_43 (fun v24 hv24 => ?_)
                              obtain ⟨r21, rfl, kr21⟩ := (show ∃ r : Nat, v24 = .ref r ∧ T r = some 21 from hv24)
                              refine lv_iconst (v := nI 2) hx hb dRG_restore_46 (by decide) ?_
                              refine lv_iload_n hx hb dRG_restore_47 rfl (lv_at hl 2 rfl) ?_
                              refine mi_imul hx hb dRG_restore_48 ?_
                              refine mi_as (show nI (2 * 1) = nI 2 from rfl) ?_
                              refine lv_iconst (v := nI 1) hx hb dRG_restore_49 (by decide) ?_
                              refine mi_isub hx hb dRG_restore_50 (by omega) ?_
                              refine mi_as (show nI (2 - 1) = nI 1 from rfl) ?_
                              refine lv_iload hx hb dRG_restore_51 (lv_at hl 0 rfl) ?_
                              refine mi_isub hx hb dRG_restore_53 (by omega) ?_
                              refine nw_ialdT hx hb hK hO kr21 (k := 21) (d := 1) rfl hP (by omega) (by omega) dRG_restore_54 ?_
                              refine lv_i2l hx hb dRG_restore_55 rfl ?_
                              refine mp_v (cx := []) (wr := []) hP hD hS hA [] [] rfl rfl rfl (by decide) (va_runV (As := [.ref f, .int (nI (256 * i27)), .int (nI 128), .long ((ctI 1 (1 - i27)).toInt64)]) (rest := []) F (N_RG_gather_7 l g _ T s27 pl hO hU h0 f pf (256 * i27) 128 ((ctI 1 (1 - i27)).toInt64) k_h0 k_f n_f (by omega)) (cwV 4 hts (wg_app (wg_c kw_724 (wg_c kw_726 (wg_c ks_16 (wg_c kw_4 wg_n)))) kw_727) rfl rfl rfl (by decide +kernel) ⟨by decide, by decide⟩) (pn_W "LatticeKeys$Ring" (en_ok g) (ci := 4) (kn := 20) (fl := [(1, 3329), (1, 7), (1, 3303), (3, 21)]) hK hO k_h0 rfl hP hD hS hA hE [] rfl rfl rfl) rfl rfl hl.1 rfl (lv_room (Nat.le_of_ble_eq_true rfl)) dRG_restore_56 ⟨by omega, by omega⟩) (fun  u21 H locs hu21 hP hD hS => ?_)
                              obtain ⟨s30, pl⟩ := u21
                              obtain ⟨⟨eq21, hFc21, -⟩, hO⟩ := hu21
                              have hO : okn g T s30 pl := hO
                              have hP : va_P g.1 vcl ([] ++ pl) _ := hP
                              have hD : va_D _ ([] ++ pl) := hD
                              have hFc21 : frm (M_RG_gather_7 pf) s27 s30 := hFc21
                              replace hR := bnd_step hR eq21
                              have hF := frm_tr hF hFc21 (fun k hk => by unfold M_RG_gather_7 at hk; unfold M_RG_restore_7; omega)
                              refine W.widen (k := 0) (n := 0) (by omega) (by omega) ?_
                              refine mi_iinc (k := 0) (x := i27) (d := 1) (y := i27 + 1) (lv' := [(5, .int (nI (i27 + 1))), (4, .int (nI 128)), (3, .int (nI 1)), (2, .int (nI 0)), (0, .ref h0), (1, .ref f)]) hx hb dRG_restore_59 hl rfl (by decide) rfl (by decide) rfl (fun ls hl => ?_)
                              refine lv_goto (tgt := 25) hx hb dRG_restore_62 (by decide) ?_
                              exact ih27 (i27 + 1) s30 pl ls H locs (by omega) hF hR (lv_sub hl [0, 1, 2, 3, 4, 5] rfl) hO hP hD hS
                          exact lp27 1 0 s26 pl ls _ _ (by omega) hF hR (lv_sub hl [0, 1, 2, 3, 4, 5] rfl) hO hP hD hS
                        | succ n26 ih26 =>
                          intro i26 s26 pl ls H locs hm26 hF hR hl hO hP hD hS
                          refine lv_iload hx hb dRG_restore_25 (lv_at hl 0 rfl) ?_
                          refine lv_iload_n hx hb dRG_restore_27 rfl (lv_at hl 2 rfl) ?_
                          refine mi_ge (tgt := 65) hx hb dRG_restore_28 (by decide) (by omega) (by omega) (fun h39 => absurd h39 (by omega)) (fun h39 => ?_)
                          refine lv_aload_n hx hb dRG_restore_31 rfl (lv_at hl 4 rfl) ?_
                          refine lv_aload_n hx hb dRG_restore_32 rfl (lv_at hl 5 rfl) ?_
                          refine lv_iconst (v := nI 2) hx hb dRG_restore_33 (by decide) ?_
                          refine lv_iload hx hb dRG_restore_34 (lv_at hl 1 rfl) ?_
                          refine mi_imul hx hb dRG_restore_36 ?_
                          refine mi_as (show nI (2 * 64) = nI 128 from rfl) ?_
                          refine lv_iload hx hb dRG_restore_37 (lv_at hl 0 rfl) ?_
                          refine mi_imul hx hb dRG_restore_39 ?_
                          refine lv_iload hx hb dRG_restore_40 (lv_at hl 1 rfl) ?_
                          refine lv_aload_n hx hb dRG_restore_42 rfl (lv_at hl 4 rfl) ?_
                          refine nw_get (C := "LatticeKeys$Ring") (TT := T_RG) (N := 4) hx hb hts (wg_ft i_RG) hown hK hO k_h0 (kn := 20) (ci := 4) (fl := [(1, 3329), (1, 7), (1, 3303), (3, 21)]) rfl hP rfl 3 (by decide) (hts _ (wg_t kw_94)) (fun _ h9 => h9) (cd := (3, 21)) rfl dRG_restore_43 (fun v25 hv25 => ?_)
                          obtain ⟨r22, rfl, kr22⟩ := (show ∃ r : Nat, v25 = .ref r ∧ T r = some 21 from hv25)
                          refine lv_iconst (v := nI 2) hx hb dRG_restore_46 (by decide) ?_
                          refine lv_iload_n hx hb dRG_restore_47 rfl (lv_at hl 2 rfl) ?_
                          refine mi_imul hx hb dRG_restore_48 ?_
                          refine mi_as (show nI (2 * 2) = nI 4 from rfl) ?_
                          refine lv_iconst (v := nI 1) hx hb dRG_restore_49 (by decide) ?_
                          refine mi_isub hx hb dRG_restore_50 (by omega) ?_
                          refine mi_as (show nI (4 - 1) = nI 3 from rfl) ?_
                          refine lv_iload hx hb dRG_restore_51 (lv_at hl 0 rfl) ?_
                          refine mi_isub hx hb dRG_restore_53 (by omega) ?_
                          refine nw_ialdT hx hb hK hO kr22 (k := 21) (d := 1) rfl hP (by omega) (by omega) dRG_restore_54 ?_
                          refine lv_i2l hx hb dRG_restore_55 rfl ?_
                          refine mp_v (cx := []) (wr := []) hP hD hS hA [] [] rfl rfl rfl (by decide) (va_runV (As := [.ref f, .int (nI (128 * i26)), .int (nI 64), .long ((ctI 1 (3 - i26)).toInt64)]) (rest := []) F (N_RG_gather_7 l g _ T s26 pl hO hU h0 f pf (128 * i26) 64 ((ctI 1 (3 - i26)).toInt64) k_h0 k_f n_f (by omega)) (cwV 4 hts (wg_app (wg_c kw_724 (wg_c kw_726 (wg_c ks_16 (wg_c kw_4 wg_n)))) kw_727) rfl rfl rfl (by decide +kernel) ⟨by decide, by decide⟩) (pn_W "LatticeKeys$Ring" (en_ok g) (ci := 4) (kn := 20) (fl := [(1, 3329), (1, 7), (1, 3303), (3, 21)]) hK hO k_h0 rfl hP hD hS hA hE [] rfl rfl rfl) rfl rfl hl.1 rfl (lv_room (Nat.le_of_ble_eq_true rfl)) dRG_restore_56 ⟨by omega, by omega⟩) (fun  u22 H locs hu22 hP hD hS => ?_)
                          obtain ⟨s31, pl⟩ := u22
                          obtain ⟨⟨eq22, hFc22, -⟩, hO⟩ := hu22
                          have hO : okn g T s31 pl := hO
                          have hP : va_P g.1 vcl ([] ++ pl) _ := hP
                          have hD : va_D _ ([] ++ pl) := hD
                          have hFc22 : frm (M_RG_gather_7 pf) s26 s31 := hFc22
                          replace hR := bnd_step hR eq22
                          have hF := frm_tr hF hFc22 (fun k hk => by unfold M_RG_gather_7 at hk; unfold M_RG_restore_7; omega)
                          refine W.widen (k := 0) (n := 0) (by omega) (by omega) ?_
                          refine mi_iinc (k := 0) (x := i26) (d := 1) (y := i26 + 1) (lv' := [(5, .int (nI (i26 + 1))), (4, .int (nI 64)), (3, .int (nI 2)), (2, .int (nI 1)), (0, .ref h0), (1, .ref f)]) hx hb dRG_restore_59 hl rfl (by decide) rfl (by decide) rfl (fun ls hl => ?_)
                          refine lv_goto (tgt := 25) hx hb dRG_restore_62 (by decide) ?_
                          exact ih26 (i26 + 1) s31 pl ls H locs (by omega) hF hR (lv_sub hl [0, 1, 2, 3, 4, 5] rfl) hO hP hD hS
                      exact lp26 2 0 s25 pl ls _ _ (by omega) hF hR (lv_sub hl [0, 1, 2, 3, 4, 5] rfl) hO hP hD hS
                    | succ n25 ih25 =>
                      intro i25 s25 pl ls H locs hm25 hF hR hl hO hP hD hS
                      refine lv_iload hx hb dRG_restore_25 (lv_at hl 0 rfl) ?_
                      refine lv_iload_n hx hb dRG_restore_27 rfl (lv_at hl 2 rfl) ?_
                      refine mi_ge (tgt := 65) hx hb dRG_restore_28 (by decide) (by omega) (by omega) (fun h40 => absurd h40 (by omega)) (fun h40 => ?_)
                      refine lv_aload_n hx hb dRG_restore_31 rfl (lv_at hl 4 rfl) ?_
                      refine lv_aload_n hx hb dRG_restore_32 rfl (lv_at hl 5 rfl) ?_
                      refine lv_iconst (v := nI 2) hx hb dRG_restore_33 (by decide) ?_
                      refine lv_iload hx hb dRG_restore_34 (lv_at hl 1 rfl) ?_
                      refine mi_imul hx hb dRG_restore_36 ?_
                      refine mi_as (show nI (2 * 32) = nI 64 from rfl) ?_
                      refine lv_iload hx hb dRG_restore_37 (lv_at hl 0 rfl) ?_
                      refine mi_imul hx hb dRG_restore_39 ?_
                      refine lv_iload hx hb dRG_restore_40 (lv_at hl 1 rfl) ?_
                      refine lv_aload_n hx hb dRG_restore_42 rfl (lv_at hl 4 rfl) ?_
                      refine nw_get (C := "LatticeKeys$Ring") (TT := T_RG) (N := 4) hx hb hts (wg_ft i_RG) hown hK hO k_h0 (kn := 20) (ci := 4) (fl := [(1, 3329), (1, 7), (1, 3303), (3, 21)]) rfl hP rfl 3 (by decide) (hts _ (wg_t kw_94)) (fun _ h9 => h9) (cd := (3, 21)) rfl dRG_restore_43 (fun v26 hv26 => ?_)
                      obtain ⟨r23, rfl, kr23⟩ := (show ∃ r : Nat, v26 = .ref r ∧ T r = some 21 from hv26)
                      refine lv_iconst (v := nI 2) hx hb dRG_restore_46 (by decide) ?_
                      refine lv_iload_n hx hb dRG_restore_47 rfl (lv_at hl 2 rfl) ?_
                      refine mi_imul hx hb dRG_restore_48 ?_
                      refine mi_as (show nI (2 * 4) = nI 8 from rfl) ?_
                      refine lv_iconst (v := nI 1) hx hb dRG_restore_49 (by decide) ?_
                      refine mi_isub hx hb dRG_restore_50 (by omega) ?_
                      refine mi_as (show nI (8 - 1) = nI 7 from rfl) ?_
                      refine lv_iload hx hb dRG_restore_51 (lv_at hl 0 rfl) ?_
                      refine mi_isub hx hb dRG_restore_53 (by omega) ?_
                      refine nw_ialdT hx hb hK hO kr23 (k := 21) (d := 1) rfl hP (by omega) (by omega) dRG_restore_54 ?_
                      refine lv_i2l hx hb dRG_restore_55 rfl ?_
                      refine mp_v (cx := []) (wr := []) hP hD hS hA [] [] rfl rfl rfl (by decide) (va_runV (As := [.ref f, .int (nI (64 * i25)), .int (nI 32), .long ((ctI 1 (7 - i25)).toInt64)]) (rest := []) F (N_RG_gather_7 l g _ T s25 pl hO hU h0 f pf (64 * i25) 32 ((ctI 1 (7 - i25)).toInt64) k_h0 k_f n_f (by omega)) (cwV 4 hts (wg_app (wg_c kw_724 (wg_c kw_726 (wg_c ks_16 (wg_c kw_4 wg_n)))) kw_727) rfl rfl rfl (by decide +kernel) ⟨by decide, by decide⟩) (pn_W "LatticeKeys$Ring" (en_ok g) (ci := 4) (kn := 20) (fl := [(1, 3329), (1, 7), (1, 3303), (3, 21)]) hK hO k_h0 rfl hP hD hS hA hE [] rfl rfl rfl) rfl rfl hl.1 rfl (lv_room (Nat.le_of_ble_eq_true rfl)) dRG_restore_56 ⟨by omega, by omega⟩) (fun  u23 H locs hu23 hP hD hS => ?_)
                      obtain ⟨s32, pl⟩ := u23
                      obtain ⟨⟨eq23, hFc23, -⟩, hO⟩ := hu23
                      have hO : okn g T s32 pl := hO
                      have hP : va_P g.1 vcl ([] ++ pl) _ := hP
                      have hD : va_D _ ([] ++ pl) := hD
                      have hFc23 : frm (M_RG_gather_7 pf) s25 s32 := hFc23
                      replace hR := bnd_step hR eq23
                      have hF := frm_tr hF hFc23 (fun k hk => by unfold M_RG_gather_7 at hk; unfold M_RG_restore_7; omega)
                      refine W.widen (k := 0) (n := 0) (by omega) (by omega) ?_
                      refine mi_iinc (k := 0) (x := i25) (d := 1) (y := i25 + 1) (lv' := [(5, .int (nI (i25 + 1))), (4, .int (nI 32)), (3, .int (nI 4)), (2, .int (nI 2)), (0, .ref h0), (1, .ref f)]) hx hb dRG_restore_59 hl rfl (by decide) rfl (by decide) rfl (fun ls hl => ?_)
                      refine lv_goto (tgt := 25) hx hb dRG_restore_62 (by decide) ?_
                      exact ih25 (i25 + 1) s32 pl ls H locs (by omega) hF hR (lv_sub hl [0, 1, 2, 3, 4, 5] rfl) hO hP hD hS
                  exact lp25 4 0 s24 pl ls _ _ (by omega) hF hR (lv_sub hl [0, 1, 2, 3, 4, 5] rfl) hO hP hD hS
                | succ n24 ih24 =>
                  intro i24 s24 pl ls H locs hm24 hF hR hl hO hP hD hS
                  refine lv_iload hx hb dRG_restore_25 (lv_at hl 0 rfl) ?_
                  refine lv_iload_n hx hb dRG_restore_27 rfl (lv_at hl 2 rfl) ?_
                  refine mi_ge (tgt := 65) hx hb dRG_restore_28 (by decide) (by omega) (by omega) (fun h41 => absurd h41 (by omega)) (fun h41 => ?_)
                  refine lv_aload_n hx hb dRG_restore_31 rfl (lv_at hl 4 rfl) ?_
                  refine lv_aload_n hx hb dRG_restore_32 rfl (lv_at hl 5 rfl) ?_
                  refine lv_iconst (v := nI 2) hx hb dRG_restore_33 (by decide) ?_
                  refine lv_iload hx hb dRG_restore_34 (lv_at hl 1 rfl) ?_
                  refine mi_imul hx hb dRG_restore_36 ?_
                  refine mi_as (show nI (2 * 16) = nI 32 from rfl) ?_
                  refine lv_iload hx hb dRG_restore_37 (lv_at hl 0 rfl) ?_
                  refine mi_imul hx hb dRG_restore_39 ?_
                  refine lv_iload hx hb dRG_restore_40 (lv_at hl 1 rfl) ?_
                  refine lv_aload_n hx hb dRG_restore_42 rfl (lv_at hl 4 rfl) ?_
                  refine nw_get (C := "LatticeKeys$Ring") (TT := T_RG) (N := 4) hx hb hts (wg_ft i_RG) hown hK hO k_h0 (kn := 20) (ci := 4) (fl := [(1, 3329), (1, 7), (1, 3303), (3, 21)]) rfl hP rfl 3 (by decide) (hts _ (wg_t kw_94)) (fun _ h9 => h9) (cd := (3, 21)) rfl dRG_restore_43 (fun v27 hv27 => ?_)
                  obtain ⟨r24, rfl, kr24⟩ := (show ∃ r : Nat, v27 = .ref r ∧ T r = some 21 from hv27)
                  refine lv_iconst (v := nI 2) hx hb dRG_restore_46 (by decide) ?_
                  refine lv_iload_n hx hb dRG_restore_47 rfl (lv_at hl 2 rfl) ?_
                  refine mi_imul hx hb dRG_restore_48 ?_
                  refine mi_as (show nI (2 * 8) = nI 16 from rfl) ?_
                  refine lv_iconst (v := nI 1) hx hb dRG_restore_49 (by decide) ?_
                  refine mi_isub hx hb dRG_restore_50 (by omega) ?_
                  refine mi_as (show nI (16 - 1) = nI 15 from rfl) ?_
                  refine lv_iload hx hb dRG_restore_51 (lv_at hl 0 rfl) ?_
                  refine mi_isub hx hb dRG_restore_53 (by omega) ?_
                  refine nw_ialdT hx hb hK hO kr24 (k := 21) (d := 1) rfl hP (by omega) (by omega) dRG_restore_54 ?_
                  refine lv_i2l hx hb dRG_restore_55 rfl ?_
                  refine mp_v (cx := []) (wr := []) hP hD hS hA [] [] rfl rfl rfl (by decide) (va_runV (As := [.ref f, .int (nI (32 * i24)), .int (nI 16), .long ((ctI 1 (15 - i24)).toInt64)]) (rest := []) F (N_RG_gather_7 l g _ T s24 pl hO hU h0 f pf (32 * i24) 16 ((ctI 1 (15 - i24)).toInt64) k_h0 k_f n_f (by omega)) (cwV 4 hts (wg_app (wg_c kw_724 (wg_c kw_726 (wg_c ks_16 (wg_c kw_4 wg_n)))) kw_727) rfl rfl rfl (by decide +kernel) ⟨by decide, by decide⟩) (pn_W "LatticeKeys$Ring" (en_ok g) (ci := 4) (kn := 20) (fl := [(1, 3329), (1, 7), (1, 3303), (3, 21)]) hK hO k_h0 rfl hP hD hS hA hE [] rfl rfl rfl) rfl rfl hl.1 rfl (lv_room (Nat.le_of_ble_eq_true rfl)) dRG_restore_56 ⟨by omega, by omega⟩) (fun  u24 H locs hu24 hP hD hS => ?_)
                  obtain ⟨s33, pl⟩ := u24
                  obtain ⟨⟨eq24, hFc24, -⟩, hO⟩ := hu24
                  have hO : okn g T s33 pl := hO
                  have hP : va_P g.1 vcl ([] ++ pl) _ := hP
                  have hD : va_D _ ([] ++ pl) := hD
                  have hFc24 : frm (M_RG_gather_7 pf) s24 s33 := hFc24
                  replace hR := bnd_step hR eq24
                  have hF := frm_tr hF hFc24 (fun k hk => by unfold M_RG_gather_7 at hk; unfold M_RG_restore_7; omega)
                  refine W.widen (k := 0) (n := 0) (by omega) (by omega) ?_
                  refine mi_iinc (k := 0) (x := i24) (d := 1) (y := i24 + 1) (lv' := [(5, .int (nI (i24 + 1))), (4, .int (nI 16)), (3, .int (nI 8)), (2, .int (nI 3)), (0, .ref h0), (1, .ref f)]) hx hb dRG_restore_59 hl rfl (by decide) rfl (by decide) rfl (fun ls hl => ?_)
                  refine lv_goto (tgt := 25) hx hb dRG_restore_62 (by decide) ?_
                  exact ih24 (i24 + 1) s33 pl ls H locs (by omega) hF hR (lv_sub hl [0, 1, 2, 3, 4, 5] rfl) hO hP hD hS
              exact lp24 8 0 s23 pl ls _ _ (by omega) hF hR (lv_sub hl [0, 1, 2, 3, 4, 5] rfl) hO hP hD hS
            | succ n23 ih23 =>
              intro i23 s23 pl ls H locs hm23 hF hR hl hO hP hD hS
              refine lv_iload hx hb dRG_restore_25 (lv_at hl 0 rfl) ?_
              refine lv_iload_n hx hb dRG_restore_27 rfl (lv_at hl 2 rfl) ?_
              refine mi_ge (tgt := 65) hx hb dRG_restore_28 (by decide) (by omega) (by omega) (fun h42 => absurd h42 (by omega)) (fun h42 => ?_)
              refine lv_aload_n hx hb dRG_restore_31 rfl (lv_at hl 4 rfl) ?_
              refine lv_aload_n hx hb dRG_restore_32 rfl (lv_at hl 5 rfl) ?_
              refine lv_iconst (v := nI 2) hx hb dRG_restore_33 (by decide) ?_
              refine lv_iload hx hb dRG_restore_34 (lv_at hl 1 rfl) ?_
              refine mi_imul hx hb dRG_restore_36 ?_
              refine mi_as (show nI (2 * 8) = nI 16 from rfl) ?_
              refine lv_iload hx hb dRG_restore_37 (lv_at hl 0 rfl) ?_
              refine mi_imul hx hb dRG_restore_39 ?_
              refine lv_iload hx hb dRG_restore_40 (lv_at hl 1 rfl) ?_
              refine lv_aload_n hx hb dRG_restore_42 rfl (lv_at hl 4 rfl) ?_
              refine nw_get (C := "LatticeKeys$Ring") (TT := T_RG) (N := 4) hx hb hts (wg_ft i_RG) hown hK hO k_h0 (kn := 20) (ci := 4) (fl := [(1, 3329), (1, 7), (1, 3303), (3, 21)]) rfl hP rfl 3 (by decide) (hts _ (wg_t kw_94)) (fun _ h9 => h9) (cd := (3, 21)) rfl dRG_restore_43 (fun v28 hv28 => ?_)
              obtain ⟨r25, rfl, kr25⟩ := (show ∃ r : Nat, v28 = .ref r ∧ T r = some 21 from hv28)
              refine lv_iconst (v := nI 2) hx hb dRG_restore_46 (by decide) ?_
              refine lv_iload_n hx hb dRG_restore_47 rfl (lv_at hl 2 rfl) ?_
              refine mi_imul hx hb dRG_restore_48 ?_
              refine mi_as (show nI (2 * 16) = nI 32 from rfl) ?_
              refine lv_iconst (v := nI 1) hx hb dRG_restore_49 (by decide) ?_
              refine mi_isub hx hb dRG_restore_50 (by omega) ?_
              refine mi_as (show nI (32 - 1) = nI 31 from rfl) ?_
              refine lv_iload hx hb dRG_restore_51 (lv_at hl 0 rfl) ?_
              refine mi_isub hx hb dRG_restore_53 (by omega) ?_
              refine nw_ialdT hx hb hK hO kr25 (k := 21) (d := 1) rfl hP (by omega) (by omega) dRG_restore_54 ?_
              refine lv_i2l hx hb dRG_restore_55 rfl ?_
              refine mp_v (cx := []) (wr := []) hP hD hS hA [] [] rfl rfl rfl (by decide) (va_runV (As := [.ref f, .int (nI (16 * i23)), .int (nI 8), .long ((ctI 1 (31 - i23)).toInt64)]) (rest := []) F (N_RG_gather_7 l g _ T s23 pl hO hU h0 f pf (16 * i23) 8 ((ctI 1 (31 - i23)).toInt64) k_h0 k_f n_f (by omega)) (cwV 4 hts (wg_app (wg_c kw_724 (wg_c kw_726 (wg_c ks_16 (wg_c kw_4 wg_n)))) kw_727) rfl rfl rfl (by decide +kernel) ⟨by decide, by decide⟩) (pn_W "LatticeKeys$Ring" (en_ok g) (ci := 4) (kn := 20) (fl := [(1, 3329), (1, 7), (1, 3303), (3, 21)]) hK hO k_h0 rfl hP hD hS hA hE [] rfl rfl rfl) rfl rfl hl.1 rfl (lv_room (Nat.le_of_ble_eq_true rfl)) dRG_restore_56 ⟨by omega, by omega⟩) (fun  u25 H locs hu25 hP hD hS => ?_)
              obtain ⟨s34, pl⟩ := u25
              obtain ⟨⟨eq25, hFc25, -⟩, hO⟩ := hu25
              have hO : okn g T s34 pl := hO
              have hP : va_P g.1 vcl ([] ++ pl) _ := hP
              have hD : va_D _ ([] ++ pl) := hD
              have hFc25 : frm (M_RG_gather_7 pf) s23 s34 := hFc25
              replace hR := bnd_step hR eq25
              have hF := frm_tr hF hFc25 (fun k hk => by unfold M_RG_gather_7 at hk; unfold M_RG_restore_7; omega)
              refine W.widen (k := 0) (n := 0) (by omega) (by omega) ?_
              refine mi_iinc (k := 0) (x := i23) (d := 1) (y := i23 + 1) (lv' := [(5, .int (nI (i23 + 1))), (4, .int (nI 8)), (3, .int (nI 16)), (2, .int (nI 4)), (0, .ref h0), (1, .ref f)]) hx hb dRG_restore_59 hl rfl (by decide) rfl (by decide) rfl (fun ls hl => ?_)
              refine lv_goto (tgt := 25) hx hb dRG_restore_62 (by decide) ?_
              exact ih23 (i23 + 1) s34 pl ls H locs (by omega) hF hR (lv_sub hl [0, 1, 2, 3, 4, 5] rfl) hO hP hD hS
          exact lp23 16 0 s22 pl ls _ _ (by omega) hF hR (lv_sub hl [0, 1, 2, 3, 4, 5] rfl) hO hP hD hS
        | succ n22 ih22 =>
          intro i22 s22 pl ls H locs hm22 hF hR hl hO hP hD hS
          refine lv_iload hx hb dRG_restore_25 (lv_at hl 0 rfl) ?_
          refine lv_iload_n hx hb dRG_restore_27 rfl (lv_at hl 2 rfl) ?_
          refine mi_ge (tgt := 65) hx hb dRG_restore_28 (by decide) (by omega) (by omega) (fun h43 => absurd h43 (by omega)) (fun h43 => ?_)
          refine lv_aload_n hx hb dRG_restore_31 rfl (lv_at hl 4 rfl) ?_
          refine lv_aload_n hx hb dRG_restore_32 rfl (lv_at hl 5 rfl) ?_
          refine lv_iconst (v := nI 2) hx hb dRG_restore_33 (by decide) ?_
          refine lv_iload hx hb dRG_restore_34 (lv_at hl 1 rfl) ?_
          refine mi_imul hx hb dRG_restore_36 ?_
          refine mi_as (show nI (2 * 4) = nI 8 from rfl) ?_
          refine lv_iload hx hb dRG_restore_37 (lv_at hl 0 rfl) ?_
          refine mi_imul hx hb dRG_restore_39 ?_
          refine lv_iload hx hb dRG_restore_40 (lv_at hl 1 rfl) ?_
          refine lv_aload_n hx hb dRG_restore_42 rfl (lv_at hl 4 rfl) ?_
          refine nw_get (C := "LatticeKeys$Ring") (TT := T_RG) (N := 4) hx hb hts (wg_ft i_RG) hown hK hO k_h0 (kn := 20) (ci := 4) (fl := [(1, 3329), (1, 7), (1, 3303), (3, 21)]) rfl hP rfl 3 (by decide) (hts _ (wg_t kw_94)) (fun _ h9 => h9) (cd := (3, 21)) rfl dRG_restore_43 (fun v29 hv29 => ?_)
          obtain ⟨r26, rfl, kr26⟩ := (show ∃ r : Nat, v29 = .ref r ∧ T r = some 21 from hv29)
          refine lv_iconst (v := nI 2) hx hb dRG_restore_46 (by decide) ?_
          refine lv_iload_n hx hb dRG_restore_47 rfl (lv_at hl 2 rfl) ?_
          refine mi_imul hx hb dRG_restore_48 ?_
          refine mi_as (show nI (2 * 32) = nI 64 from rfl) ?_
          refine lv_iconst (v := nI 1) hx hb dRG_restore_49 (by decide) ?_
          refine mi_isub hx hb dRG_restore_50 (by omega) ?_
          refine mi_as (show nI (64 - 1) = nI 63 from rfl) ?_
          refine lv_iload hx hb dRG_restore_51 (lv_at hl 0 rfl) ?_
          refine mi_isub hx hb dRG_restore_53 (by omega) ?_
          refine nw_ialdT hx hb hK hO kr26 (k := 21) (d := 1) rfl hP (by omega) (by omega) dRG_restore_54 ?_
          refine lv_i2l hx hb dRG_restore_55 rfl ?_
          refine mp_v (cx := []) (wr := []) hP hD hS hA [] [] rfl rfl rfl (by decide) (va_runV (As := [.ref f, .int (nI (8 * i22)), .int (nI 4), .long ((ctI 1 (63 - i22)).toInt64)]) (rest := []) F (N_RG_gather_7 l g _ T s22 pl hO hU h0 f pf (8 * i22) 4 ((ctI 1 (63 - i22)).toInt64) k_h0 k_f n_f (by omega)) (cwV 4 hts (wg_app (wg_c kw_724 (wg_c kw_726 (wg_c ks_16 (wg_c kw_4 wg_n)))) kw_727) rfl rfl rfl (by decide +kernel) ⟨by decide, by decide⟩) (pn_W "LatticeKeys$Ring" (en_ok g) (ci := 4) (kn := 20) (fl := [(1, 3329), (1, 7), (1, 3303), (3, 21)]) hK hO k_h0 rfl hP hD hS hA hE [] rfl rfl rfl) rfl rfl hl.1 rfl (lv_room (Nat.le_of_ble_eq_true rfl)) dRG_restore_56 ⟨by omega, by omega⟩) (fun  u26 H locs hu26 hP hD hS => ?_)
          obtain ⟨s35, pl⟩ := u26
          obtain ⟨⟨eq26, hFc26, -⟩, hO⟩ := hu26
          have hO : okn g T s35 pl := hO
          have hP : va_P g.1 vcl ([] ++ pl) _ := hP
          have hD : va_D _ ([] ++ pl) := hD
          have hFc26 : frm (M_RG_gather_7 pf) s22 s35 := hFc26
          replace hR := bnd_step hR eq26
          have hF := frm_tr hF hFc26 (fun k hk => by unfold M_RG_gather_7 at hk; unfold M_RG_restore_7; omega)
          refine W.widen (k := 0) (n := 0) (by omega) (by omega) ?_
          refine mi_iinc (k := 0) (x := i22) (d := 1) (y := i22 + 1) (lv' := [(5, .int (nI (i22 + 1))), (4, .int (nI 4)), (3, .int (nI 32)), (2, .int (nI 5)), (0, .ref h0), (1, .ref f)]) hx hb dRG_restore_59 hl rfl (by decide) rfl (by decide) rfl (fun ls hl => ?_)
          refine lv_goto (tgt := 25) hx hb dRG_restore_62 (by decide) ?_
          exact ih22 (i22 + 1) s35 pl ls H locs (by omega) hF hR (lv_sub hl [0, 1, 2, 3, 4, 5] rfl) hO hP hD hS
      exact lp22 32 0 s21 pl ls _ _ (by omega) hF hR (lv_sub hl [0, 1, 2, 3, 4, 5] rfl) hO hP hD hS
    | succ n21 ih21 =>
      intro i21 s21 pl ls H locs hm21 hF hR hl hO hP hD hS
      refine lv_iload hx hb dRG_restore_25 (lv_at hl 0 rfl) ?_
      refine lv_iload_n hx hb dRG_restore_27 rfl (lv_at hl 2 rfl) ?_
      refine mi_ge (tgt := 65) hx hb dRG_restore_28 (by decide) (by omega) (by omega) (fun h44 => absurd h44 (by omega)) (fun h44 => ?_)
      refine lv_aload_n hx hb dRG_restore_31 rfl (lv_at hl 4 rfl) ?_
      refine lv_aload_n hx hb dRG_restore_32 rfl (lv_at hl 5 rfl) ?_
      refine lv_iconst (v := nI 2) hx hb dRG_restore_33 (by decide) ?_
      refine lv_iload hx hb dRG_restore_34 (lv_at hl 1 rfl) ?_
      refine mi_imul hx hb dRG_restore_36 ?_
      refine mi_as (show nI (2 * 2) = nI 4 from rfl) ?_
      refine lv_iload hx hb dRG_restore_37 (lv_at hl 0 rfl) ?_
      refine mi_imul hx hb dRG_restore_39 ?_
      refine lv_iload hx hb dRG_restore_40 (lv_at hl 1 rfl) ?_
      refine lv_aload_n hx hb dRG_restore_42 rfl (lv_at hl 4 rfl) ?_
      refine nw_get (C := "LatticeKeys$Ring") (TT := T_RG) (N := 4) hx hb hts (wg_ft i_RG) hown hK hO k_h0 (kn := 20) (ci := 4) (fl := [(1, 3329), (1, 7), (1, 3303), (3, 21)]) rfl hP rfl 3 (by decide) (hts _ (wg_t kw_94)) (fun _ h9 => h9) (cd := (3, 21)) rfl dRG_restore_43 (fun v30 hv30 => ?_)
      obtain ⟨r27, rfl, kr27⟩ := (show ∃ r : Nat, v30 = .ref r ∧ T r = some 21 from hv30)
      refine lv_iconst (v := nI 2) hx hb dRG_restore_46 (by decide) ?_
      refine lv_iload_n hx hb dRG_restore_47 rfl (lv_at hl 2 rfl) ?_
      refine mi_imul hx hb dRG_restore_48 ?_
      refine mi_as (show nI (2 * 64) = nI 128 from rfl) ?_
      refine lv_iconst (v := nI 1) hx hb dRG_restore_49 (by decide) ?_
      refine mi_isub hx hb dRG_restore_50 (by omega) ?_
      refine mi_as (show nI (128 - 1) = nI 127 from rfl) ?_
      refine lv_iload hx hb dRG_restore_51 (lv_at hl 0 rfl) ?_
      refine mi_isub hx hb dRG_restore_53 (by omega) ?_
      refine nw_ialdT hx hb hK hO kr27 (k := 21) (d := 1) rfl hP (by omega) (by omega) dRG_restore_54 ?_
      refine lv_i2l hx hb dRG_restore_55 rfl ?_
      refine mp_v (cx := []) (wr := []) hP hD hS hA [] [] rfl rfl rfl (by decide) (va_runV (As := [.ref f, .int (nI (4 * i21)), .int (nI 2), .long ((ctI 1 (127 - i21)).toInt64)]) (rest := []) F (N_RG_gather_7 l g _ T s21 pl hO hU h0 f pf (4 * i21) 2 ((ctI 1 (127 - i21)).toInt64) k_h0 k_f n_f (by omega)) (cwV 4 hts (wg_app (wg_c kw_724 (wg_c kw_726 (wg_c ks_16 (wg_c kw_4 wg_n)))) kw_727) rfl rfl rfl (by decide +kernel) ⟨by decide, by decide⟩) (pn_W "LatticeKeys$Ring" (en_ok g) (ci := 4) (kn := 20) (fl := [(1, 3329), (1, 7), (1, 3303), (3, 21)]) hK hO k_h0 rfl hP hD hS hA hE [] rfl rfl rfl) rfl rfl hl.1 rfl (lv_room (Nat.le_of_ble_eq_true rfl)) dRG_restore_56 ⟨by omega, by omega⟩) (fun  u27 H locs hu27 hP hD hS => ?_)
      obtain ⟨s36, pl⟩ := u27
      obtain ⟨⟨eq27, hFc27, -⟩, hO⟩ := hu27
      have hO : okn g T s36 pl := hO
      have hP : va_P g.1 vcl ([] ++ pl) _ := hP
      have hD : va_D _ ([] ++ pl) := hD
      have hFc27 : frm (M_RG_gather_7 pf) s21 s36 := hFc27
      replace hR := bnd_step hR eq27
      have hF := frm_tr hF hFc27 (fun k hk => by unfold M_RG_gather_7 at hk; unfold M_RG_restore_7; omega)
      refine W.widen (k := 0) (n := 0) (by omega) (by omega) ?_
      refine mi_iinc (k := 0) (x := i21) (d := 1) (y := i21 + 1) (lv' := [(5, .int (nI (i21 + 1))), (4, .int (nI 2)), (3, .int (nI 64)), (2, .int (nI 6)), (0, .ref h0), (1, .ref f)]) hx hb dRG_restore_59 hl rfl (by decide) rfl (by decide) rfl (fun ls hl => ?_)
      refine lv_goto (tgt := 25) hx hb dRG_restore_62 (by decide) ?_
      exact ih21 (i21 + 1) s36 pl ls H locs (by omega) hF hR (lv_sub hl [0, 1, 2, 3, 4, 5] rfl) hO hP hD hS
  exact lp21 64 0 s pl ls _ _ (by omega) hF hR (lv_sub hl [0, 1, 2, 3, 4, 5] rfl) hO hP hD hS
def M_RG_restore_8 (pf : Nat) (k : Nat) : Prop := k = pf ∨ (0 : Nat) = 1
noncomputable def F_RG_restore_8_L8 (pf : Nat) : Nat → Nat → Sto → Sto
  | 0, i29, s29 => s29
  | n29 + 1, i29, s29 => bnd (sI s29 pf i29 (((((s29.1 pf i29).toInt64) * ((nI 8347681).toInt64)) - (((s29.1 pf i29).toInt64) * ((nI 8347681).toInt64)) / ((nI 8380417).toInt64) * ((nI 8380417).toInt64)).toInt32)) fun s30 => F_RG_restore_8_L8 pf n29 (i29 + 1) s30
noncomputable def F_RG_restore_8_L7 (pf : Nat) : Nat → Nat → Sto → Sto
  | 0, i28, s28 => F_RG_restore_8_L8 pf 256 0 s28
  | n28 + 1, i28, s28 => bnd (F_RG_gather_8 pf (256 * i28) 128 ((ctI 2 (1 - i28)).toInt64) s28) fun s31 => F_RG_restore_8_L7 pf n28 (i28 + 1) s31
noncomputable def F_RG_restore_8_L6 (pf : Nat) : Nat → Nat → Sto → Sto
  | 0, i27, s27 => F_RG_restore_8_L7 pf 1 0 s27
  | n27 + 1, i27, s27 => bnd (F_RG_gather_8 pf (128 * i27) 64 ((ctI 2 (3 - i27)).toInt64) s27) fun s32 => F_RG_restore_8_L6 pf n27 (i27 + 1) s32
noncomputable def F_RG_restore_8_L5 (pf : Nat) : Nat → Nat → Sto → Sto
  | 0, i26, s26 => F_RG_restore_8_L6 pf 2 0 s26
  | n26 + 1, i26, s26 => bnd (F_RG_gather_8 pf (64 * i26) 32 ((ctI 2 (7 - i26)).toInt64) s26) fun s33 => F_RG_restore_8_L5 pf n26 (i26 + 1) s33
noncomputable def F_RG_restore_8_L4 (pf : Nat) : Nat → Nat → Sto → Sto
  | 0, i25, s25 => F_RG_restore_8_L5 pf 4 0 s25
  | n25 + 1, i25, s25 => bnd (F_RG_gather_8 pf (32 * i25) 16 ((ctI 2 (15 - i25)).toInt64) s25) fun s34 => F_RG_restore_8_L4 pf n25 (i25 + 1) s34
noncomputable def F_RG_restore_8_L3 (pf : Nat) : Nat → Nat → Sto → Sto
  | 0, i24, s24 => F_RG_restore_8_L4 pf 8 0 s24
  | n24 + 1, i24, s24 => bnd (F_RG_gather_8 pf (16 * i24) 8 ((ctI 2 (31 - i24)).toInt64) s24) fun s35 => F_RG_restore_8_L3 pf n24 (i24 + 1) s35
noncomputable def F_RG_restore_8_L2 (pf : Nat) : Nat → Nat → Sto → Sto
  | 0, i23, s23 => F_RG_restore_8_L3 pf 16 0 s23
  | n23 + 1, i23, s23 => bnd (F_RG_gather_8 pf (8 * i23) 4 ((ctI 2 (63 - i23)).toInt64) s23) fun s36 => F_RG_restore_8_L2 pf n23 (i23 + 1) s36
noncomputable def F_RG_restore_8_L1 (pf : Nat) : Nat → Nat → Sto → Sto
  | 0, i22, s22 => F_RG_restore_8_L2 pf 32 0 s22
  | n22 + 1, i22, s22 => bnd (F_RG_gather_8 pf (4 * i22) 2 ((ctI 2 (127 - i22)).toInt64) s22) fun s37 => F_RG_restore_8_L1 pf n22 (i22 + 1) s37
noncomputable def F_RG_restore_8_L0 (pf : Nat) : Nat → Nat → Sto → Sto
  | 0, i21, s21 => F_RG_restore_8_L1 pf 64 0 s21
  | n21 + 1, i21, s21 => bnd (F_RG_gather_8 pf (2 * i21) 1 ((ctI 2 (255 - i21)).toInt64) s21) fun s38 => F_RG_restore_8_L0 pf n21 (i21 + 1) s38
noncomputable def F_RG_restore_8 (pf : Nat) (s : Sto) : Sto := F_RG_restore_8_L0 pf 128 0 s
set_option maxHeartbeats 400000 in
set_option maxRecDepth 100000 in
theorem N_RG_restore_8 (l : Launch) (g : Gd) (sz : Nat) (T : TyN) (s : Sto) (pl : va_W) (hO : okn g T s pl) (hU : inj T) (h0 f : Nat) (pf : Nat) (k_h0 : T h0 = some 22) (k_f : T f = some pf) (n_f : nsp pf = (0, 256, []))  : Met l y_RG_restore w_RG_restore ({ frames := 1, cells := 0, slots := 0, locals := 28 } : Room) (va_Pc [.ref h0, .ref f] (pr (en g) g.1 vcl sz ([] ++ pl))) (va_Qv (fun (u : (Sto) × va_W) => (u.1 = F_RG_restore_8 pf s ∧ frm (M_RG_restore_8 pf) s u.1 ∧ True) ∧ okn g T u.1 u.2) (po g.1 vcl (va_A ([] ++ pl) sz) (fun (u : (Sto) × va_W) => [] ++ u.2)) (va_A ([] ++ pl) sz)) 0 0 (va_A ([] ++ pl) sz) := by
  refine mc_entry (cc := c_RG_restore) (maxL := 6) (ret := none) (by decide) rfl (Nat.le_of_ble_eq_true rfl) ?_
  intro p e s0 m args below meth c ls F hr hlk hnm hsz hP hD hE hA hl
  obtain ⟨hx, hb, hml, hown, hts⟩ := id F
  have hK := hE.1
  generalize va_A ([] ++ pl) sz = A at hD hE hA ⊢
  have hS : va_S A s0.heap s0.heap [] := va_S.rf
  have hl : lv_has ls 6 [(0, .ref h0), (1, .ref f)] := hl
  have hR : F_RG_restore_8 pf s = F_RG_restore_8 pf s := rfl
  have hF : frm (M_RG_restore_8 pf) s s := frm_rf
  refine lv_aload_n hx hb dRG_restore_0 rfl (lv_at hl 0 rfl) ?_
  refine nw_get (C := "LatticeKeys$Ring") (TT := T_RG) (N := 4) hx hb hts (wg_ft i_RG) hown hK hO k_h0 (kn := 22) (ci := 4) (fl := [(1, 8380417), (1, 8), (1, 8347681), (3, 23)]) rfl hP rfl 1 (by decide) (hts _ (wg_t kw_92)) (fun _ h9 => h9) (cd := (1, 8)) rfl dRG_restore_1 (fun v21 hv21 => ?_)
  obtain rfl := (show v21 = .int (nI 8) from hv21)
  refine lv_iconst (v := nI 1) hx hb dRG_restore_4 (by decide) ?_
  refine mi_isub hx hb dRG_restore_5 (by omega) ?_
  refine mi_as (show nI (8 - 1) = nI 7 from rfl) ?_
  refine lv_istore_n (lv' := [(2, .int (nI 7)), (0, .ref h0), (1, .ref f)]) hx hb dRG_restore_6 rfl hl (by decide) rfl (fun ls hl => ?_)
  refine lv_iload_n hx hb dRG_restore_7 rfl (lv_at hl 0 rfl) ?_
  refine lv_if_lt (tgt := 71) hx hb dRG_restore_8 (by decide) (fun h21 => absurd h21 (by decide)) (fun h21 => ?_)
  refine lv_iconst (v := nI 1) hx hb dRG_restore_11 (by decide) ?_
  refine lv_iload_n hx hb dRG_restore_12 rfl (lv_at hl 0 rfl) ?_
  refine mi_ishl hx hb dRG_restore_13 (by decide) (by decide) ?_
  refine mi_as (show nI (1 * 2 ^ 7) = nI 128 from rfl) ?_
  refine lv_istore_n (lv' := [(3, .int (nI 128)), (2, .int (nI 7)), (0, .ref h0), (1, .ref f)]) hx hb dRG_restore_14 rfl hl (by decide) rfl (fun ls hl => ?_)
  refine lv_sipush (v := nI 128) hx hb dRG_restore_15 (by decide) ?_
  refine lv_iload_n hx hb dRG_restore_18 rfl (lv_at hl 1 rfl) ?_
  refine mi_ishr hx hb dRG_restore_19 (by omega) (by decide) ?_
  refine mi_as (show nI (128 / 2 ^ 7) = nI (1) from rfl) ?_
  refine lv_istore (lv' := [(4, .int (nI 1)), (3, .int (nI 128)), (2, .int (nI 7)), (0, .ref h0), (1, .ref f)]) hx hb dRG_restore_20 hl (by decide) rfl (fun ls hl => ?_)
  refine lv_iconst (v := nI 0) hx hb dRG_restore_22 (by decide) ?_
  refine lv_istore (lv' := [(5, .int (nI 0)), (4, .int (nI 1)), (3, .int (nI 128)), (2, .int (nI 7)), (0, .ref h0), (1, .ref f)]) hx hb dRG_restore_23 hl (by decide) rfl (fun ls hl => ?_)
  have lp21 : ∀ (n21 : Nat) (i21 : Nat) (s21 : Sto) (pl : va_W) (ls : Array Slot) (H : Heap) (locs : List Loc), n21 + i21 = 128 → frm (M_RG_restore_8 pf) s s21 → F_RG_restore_8 pf s = F_RG_restore_8_L0 pf n21 i21 s21 → lv_has ls 6 [(5, .int (nI i21)), (4, .int (nI 1)), (3, .int (nI 128)), (2, .int (nI 7)), (0, .ref h0), (1, .ref f)] → okn g T s21 pl → va_P g.1 vcl ([] ++ pl) H → va_D A ([] ++ pl) → va_S A s0.heap H locs → W p l e ({ frames := 1, cells := 0, slots := 0, locals := 28 } : Room) s0 m args below meth c H locs 0 0 (MQ below (va_Qv (fun (u : (Sto) × va_W) => (u.1 = F_RG_restore_8 pf s ∧ frm (M_RG_restore_8 pf) s u.1 ∧ True) ∧ okn g T u.1 u.2) (po g.1 vcl A (fun (u : (Sto) × va_W) => [] ++ u.2)) A) args s0 0 0 A) (F0 m 25 ls []) := by
    intro n21
    induction n21 with
    | zero =>
      intro i21 s21 pl ls H locs hm21 hF hR hl hO hP hD hS
      refine lv_iload hx hb dRG_restore_25 (lv_at hl 0 rfl) ?_
      refine lv_iload_n hx hb dRG_restore_27 rfl (lv_at hl 2 rfl) ?_
      refine mi_ge (tgt := 65) hx hb dRG_restore_28 (by decide) (by omega) (by omega) (fun h22 => ?_) (fun h22 => absurd h22 (by omega))
      refine lv_iinc (k := 3) (v := nI 6) (lv' := [(2, .int (nI 6)), (5, .int (nI i21)), (4, .int (nI 1)), (3, .int (nI 128)), (0, .ref h0), (1, .ref f)]) hx hb dRG_restore_65 hl rfl (by decide) (by decide) rfl (fun ls hl => ?_)
      refine lv_goto (tgt := 7) hx hb dRG_restore_68 (by decide) ?_
      refine lv_iload_n hx hb dRG_restore_7 rfl (lv_at hl 0 rfl) ?_
      refine lv_if_lt (tgt := 71) hx hb dRG_restore_8 (by decide) (fun h23 => absurd h23 (by decide)) (fun h23 => ?_)
      refine lv_iconst (v := nI 1) hx hb dRG_restore_11 (by decide) ?_
      refine lv_iload_n hx hb dRG_restore_12 rfl (lv_at hl 0 rfl) ?_
      refine mi_ishl hx hb dRG_restore_13 (by decide) (by decide) ?_
      refine mi_as (show nI (1 * 2 ^ 6) = nI 64 from rfl) ?_
      refine lv_istore_n (lv' := [(3, .int (nI 64)), (2, .int (nI 6)), (5, .int (nI i21)), (4, .int (nI 1)), (0, .ref h0), (1, .ref f)]) hx hb dRG_restore_14 rfl hl (by decide) rfl (fun ls hl => ?_)
      refine lv_sipush (v := nI 128) hx hb dRG_restore_15 (by decide) ?_
      refine lv_iload_n hx hb dRG_restore_18 rfl (lv_at hl 1 rfl) ?_
      refine mi_ishr hx hb dRG_restore_19 (by omega) (by decide) ?_
      refine mi_as (show nI (128 / 2 ^ 6) = nI (2) from rfl) ?_
      refine lv_istore (lv' := [(4, .int (nI 2)), (3, .int (nI 64)), (2, .int (nI 6)), (5, .int (nI i21)), (0, .ref h0), (1, .ref f)]) hx hb dRG_restore_20 hl (by decide) rfl (fun ls hl => ?_)
      refine lv_iconst (v := nI 0) hx hb dRG_restore_22 (by decide) ?_
      refine lv_istore (lv' := [(5, .int (nI 0)), (4, .int (nI 2)), (3, .int (nI 64)), (2, .int (nI 6)), (0, .ref h0), (1, .ref f)]) hx hb dRG_restore_23 hl (by decide) rfl (fun ls hl => ?_)
      have lp22 : ∀ (n22 : Nat) (i22 : Nat) (s22 : Sto) (pl : va_W) (ls : Array Slot) (H : Heap) (locs : List Loc), n22 + i22 = 64 → frm (M_RG_restore_8 pf) s s22 → F_RG_restore_8 pf s = F_RG_restore_8_L1 pf n22 i22 s22 → lv_has ls 6 [(5, .int (nI i22)), (4, .int (nI 2)), (3, .int (nI 64)), (2, .int (nI 6)), (0, .ref h0), (1, .ref f)] → okn g T s22 pl → va_P g.1 vcl ([] ++ pl) H → va_D A ([] ++ pl) → va_S A s0.heap H locs → W p l e ({ frames := 1, cells := 0, slots := 0, locals := 28 } : Room) s0 m args below meth c H locs 0 0 (MQ below (va_Qv (fun (u : (Sto) × va_W) => (u.1 = F_RG_restore_8 pf s ∧ frm (M_RG_restore_8 pf) s u.1 ∧ True) ∧ okn g T u.1 u.2) (po g.1 vcl A (fun (u : (Sto) × va_W) => [] ++ u.2)) A) args s0 0 0 A) (F0 m 25 ls []) := by
        intro n22
        induction n22 with
        | zero =>
          intro i22 s22 pl ls H locs hm22 hF hR hl hO hP hD hS
          refine lv_iload hx hb dRG_restore_25 (lv_at hl 0 rfl) ?_
          refine lv_iload_n hx hb dRG_restore_27 rfl (lv_at hl 2 rfl) ?_
          refine mi_ge (tgt := 65) hx hb dRG_restore_28 (by decide) (by omega) (by omega) (fun h24 => ?_) (fun h24 => absurd h24 (by omega))
          refine lv_iinc (k := 3) (v := nI 5) (lv' := [(2, .int (nI 5)), (5, .int (nI i22)), (4, .int (nI 2)), (3, .int (nI 64)), (0, .ref h0), (1, .ref f)]) hx hb dRG_restore_65 hl rfl (by decide) (by decide) rfl (fun ls hl => ?_)
          refine lv_goto (tgt := 7) hx hb dRG_restore_68 (by decide) ?_
          refine lv_iload_n hx hb dRG_restore_7 rfl (lv_at hl 0 rfl) ?_
          refine lv_if_lt (tgt := 71) hx hb dRG_restore_8 (by decide) (fun h25 => absurd h25 (by decide)) (fun h25 => ?_)
          refine lv_iconst (v := nI 1) hx hb dRG_restore_11 (by decide) ?_
          refine lv_iload_n hx hb dRG_restore_12 rfl (lv_at hl 0 rfl) ?_
          refine mi_ishl hx hb dRG_restore_13 (by decide) (by decide) ?_
          refine mi_as (show nI (1 * 2 ^ 5) = nI 32 from rfl) ?_
          refine lv_istore_n (lv' := [(3, .int (nI 32)), (2, .int (nI 5)), (5, .int (nI i22)), (4, .int (nI 2)), (0, .ref h0), (1, .ref f)]) hx hb dRG_restore_14 rfl hl (by decide) rfl (fun ls hl => ?_)
          refine lv_sipush (v := nI 128) hx hb dRG_restore_15 (by decide) ?_
          refine lv_iload_n hx hb dRG_restore_18 rfl (lv_at hl 1 rfl) ?_
          refine mi_ishr hx hb dRG_restore_19 (by omega) (by decide) ?_
          refine mi_as (show nI (128 / 2 ^ 5) = nI (4) from rfl) ?_
          refine lv_istore (lv' := [(4, .int (nI 4)), (3, .int (nI 32)), (2, .int (nI 5)), (5, .int (nI i22)), (0, .ref h0), (1, .ref f)]) hx hb dRG_restore_20 hl (by decide) rfl (fun ls hl => ?_)
          refine lv_iconst (v := nI 0) hx hb dRG_restore_22 (by decide) ?_
          refine lv_istore (lv' := [(5, .int (nI 0)), (4, .int (nI 4)), (3, .int (nI 32)), (2, .int (nI 5)), (0, .ref h0), (1, .ref f)]) hx hb dRG_restore_23 hl (by decide) rfl (fun ls hl => ?_)
          have lp23 : ∀ (n23 : Nat) (i23 : Nat) (s23 : Sto) (pl : va_W) (ls : Array Slot) (H : Heap) (locs : List Loc), n23 + i23 = 32 → frm (M_RG_restore_8 pf) s s23 → F_RG_restore_8 pf s = F_RG_restore_8_L2 pf n23 i23 s23 → lv_has ls 6 [(5, .int (nI i23)), (4, .int (nI 4)), (3, .int (nI 32)), (2, .int (nI 5)), (0, .ref h0), (1, .ref f)] → okn g T s23 pl → va_P g.1 vcl ([] ++ pl) H → va_D A ([] ++ pl) → va_S A s0.heap H locs → W p l e ({ frames := 1, cells := 0, slots := 0, locals := 28 } : Room) s0 m args below meth c H locs 0 0 (MQ below (va_Qv (fun (u : (Sto) × va_W) => (u.1 = F_RG_restore_8 pf s ∧ frm (M_RG_restore_8 pf) s u.1 ∧ True) ∧ okn g T u.1 u.2) (po g.1 vcl A (fun (u : (Sto) × va_W) => [] ++ u.2)) A) args s0 0 0 A) (F0 m 25 ls []) := by
            intro n23
            induction n23 with
            | zero =>
              intro i23 s23 pl ls H locs hm23 hF hR hl hO hP hD hS
              refine lv_iload hx hb dRG_restore_25 (lv_at hl 0 rfl) ?_
              refine lv_iload_n hx hb dRG_restore_27 rfl (lv_at hl 2 rfl) ?_
              refine mi_ge (tgt := 65) hx hb dRG_restore_28 (by decide) (by omega) (by omega) (fun h26 => ?_) (fun h26 => absurd h26 (by omega))
              refine lv_iinc (k := 3) (v := nI 4) (lv' := [(2, .int (nI 4)), (5, .int (nI i23)), (4, .int (nI 4)), (3, .int (nI 32)), (0, .ref h0), (1, .ref f)]) hx hb dRG_restore_65 hl rfl (by decide) (by decide) rfl (fun ls hl => ?_)
              refine lv_goto (tgt := 7) hx hb dRG_restore_68 (by decide) ?_
              refine lv_iload_n hx hb dRG_restore_7 rfl (lv_at hl 0 rfl) ?_
              refine lv_if_lt (tgt := 71) hx hb dRG_restore_8 (by decide) (fun h27 => absurd h27 (by decide)) (fun h27 => ?_)
              refine lv_iconst (v := nI 1) hx hb dRG_restore_11 (by decide) ?_
              refine lv_iload_n hx hb dRG_restore_12 rfl (lv_at hl 0 rfl) ?_
              refine mi_ishl hx hb dRG_restore_13 (by decide) (by decide) ?_
              refine mi_as (show nI (1 * 2 ^ 4) = nI 16 from rfl) ?_
              refine lv_istore_n (lv' := [(3, .int (nI 16)), (2, .int (nI 4)), (5, .int (nI i23)), (4, .int (nI 4)), (0, .ref h0), (1, .ref f)]) hx hb dRG_restore_14 rfl hl (by decide) rfl (fun ls hl => ?_)
              refine lv_sipush (v := nI 128) hx hb dRG_restore_15 (by decide) ?_
              refine lv_iload_n hx hb dRG_restore_18 rfl (lv_at hl 1 rfl) ?_
              refine mi_ishr hx hb dRG_restore_19 (by omega) (by decide) ?_
              refine mi_as (show nI (128 / 2 ^ 4) = nI (8) from rfl) ?_
              refine lv_istore (lv' := [(4, .int (nI 8)), (3, .int (nI 16)), (2, .int (nI 4)), (5, .int (nI i23)), (0, .ref h0), (1, .ref f)]) hx hb dRG_restore_20 hl (by decide) rfl (fun ls hl => ?_)
              refine lv_iconst (v := nI 0) hx hb dRG_restore_22 (by decide) ?_
              refine lv_istore (lv' := [(5, .int (nI 0)), (4, .int (nI 8)), (3, .int (nI 16)), (2, .int (nI 4)), (0, .ref h0), (1, .ref f)]) hx hb dRG_restore_23 hl (by decide) rfl (fun ls hl => ?_)
              have lp24 : ∀ (n24 : Nat) (i24 : Nat) (s24 : Sto) (pl : va_W) (ls : Array Slot) (H : Heap) (locs : List Loc), n24 + i24 = 16 → frm (M_RG_restore_8 pf) s s24 → F_RG_restore_8 pf s = F_RG_restore_8_L3 pf n24 i24 s24 → lv_has ls 6 [(5, .int (nI i24)), (4, .int (nI 8)), (3, .int (nI 16)), (2, .int (nI 4)), (0, .ref h0), (1, .ref f)] → okn g T s24 pl → va_P g.1 vcl ([] ++ pl) H → va_D A ([] ++ pl) → va_S A s0.heap H locs → W p l e ({ frames := 1, cells := 0, slots := 0, locals := 28 } : Room) s0 m args below meth c H locs 0 0 (MQ below (va_Qv (fun (u : (Sto) × va_W) => (u.1 = F_RG_restore_8 pf s ∧ frm (M_RG_restore_8 pf) s u.1 ∧ True) ∧ okn g T u.1 u.2) (po g.1 vcl A (fun (u : (Sto) × va_W) => [] ++ u.2)) A) args s0 0 0 A) (F0 m 25 ls []) := by
                intro n24
                induction n24 with
                | zero =>
                  intro i24 s24 pl ls H locs hm24 hF hR hl hO hP hD hS
                  refine lv_iload hx hb dRG_restore_25 (lv_at hl 0 rfl) ?_
                  refine lv_iload_n hx hb dRG_restore_27 rfl (lv_at hl 2 rfl) ?_
                  refine mi_ge (tgt := 65) hx hb dRG_restore_28 (by decide) (by omega) (by omega) (fun h28 => ?_) (fun h28 => absurd h28 (by omega))
                  refine lv_iinc (k := 3) (v := nI 3) (lv' := [(2, .int (nI 3)), (5, .int (nI i24)), (4, .int (nI 8)), (3, .int (nI 16)), (0, .ref h0), (1, .ref f)]) hx hb dRG_restore_65 hl rfl (by decide) (by decide) rfl (fun ls hl => ?_)
                  refine lv_goto (tgt := 7) hx hb dRG_restore_68 (by decide) ?_
                  refine lv_iload_n hx hb dRG_restore_7 rfl (lv_at hl 0 rfl) ?_
                  refine lv_if_lt (tgt := 71) hx hb dRG_restore_8 (by decide) (fun h29 => absurd h29 (by decide)) (fun h29 => ?_)
                  refine lv_iconst (v := nI 1) hx hb dRG_restore_11 (by decide) ?_
                  refine lv_iload_n hx hb dRG_restore_12 rfl (lv_at hl 0 rfl) ?_
                  refine mi_ishl hx hb dRG_restore_13 (by decide) (by decide) ?_
                  refine mi_as (show nI (1 * 2 ^ 3) = nI 8 from rfl) ?_
                  refine lv_istore_n (lv' := [(3, .int (nI 8)), (2, .int (nI 3)), (5, .int (nI i24)), (4, .int (nI 8)), (0, .ref h0), (1, .ref f)]) hx hb dRG_restore_14 rfl hl (by decide) rfl (fun ls hl => ?_)
                  refine lv_sipush (v := nI 128) hx hb dRG_restore_15 (by decide) ?_
                  refine lv_iload_n hx hb dRG_restore_18 rfl (lv_at hl 1 rfl) ?_
                  refine mi_ishr hx hb dRG_restore_19 (by omega) (by decide) ?_
                  refine mi_as (show nI (128 / 2 ^ 3) = nI (16) from rfl) ?_
                  refine lv_istore (lv' := [(4, .int (nI 16)), (3, .int (nI 8)), (2, .int (nI 3)), (5, .int (nI i24)), (0, .ref h0), (1, .ref f)]) hx hb dRG_restore_20 hl (by decide) rfl (fun ls hl => ?_)
                  refine lv_iconst (v := nI 0) hx hb dRG_restore_22 (by decide) ?_
                  refine lv_istore (lv' := [(5, .int (nI 0)), (4, .int (nI 16)), (3, .int (nI 8)), (2, .int (nI 3)), (0, .ref h0), (1, .ref f)]) hx hb dRG_restore_23 hl (by decide) rfl (fun ls hl => ?_)
                  have lp25 : ∀ (n25 : Nat) (i25 : Nat) (s25 : Sto) (pl : va_W) (ls : Array Slot) (H : Heap) (locs : List Loc), n25 + i25 = 8 → frm (M_RG_restore_8 pf) s s25 → F_RG_restore_8 pf s = F_RG_restore_8_L4 pf n25 i25 s25 → lv_has ls 6 [(5, .int (nI i25)), (4, .int (nI 16)), (3, .int (nI 8)), (2, .int (nI 3)), (0, .ref h0), (1, .ref f)] → okn g T s25 pl → va_P g.1 vcl ([] ++ pl) H → va_D A ([] ++ pl) → va_S A s0.heap H locs → W p l e ({ frames := 1, cells := 0, slots := 0, locals := 28 } : Room) s0 m args below meth c H locs 0 0 (MQ below (va_Qv (fun (u : (Sto) × va_W) => (u.1 = F_RG_restore_8 pf s ∧ frm (M_RG_restore_8 pf) s u.1 ∧ True) ∧ okn g T u.1 u.2) (po g.1 vcl A (fun (u : (Sto) × va_W) => [] ++ u.2)) A) args s0 0 0 A) (F0 m 25 ls []) := by
                    intro n25
                    induction n25 with
                    | zero =>
                      intro i25 s25 pl ls H locs hm25 hF hR hl hO hP hD hS
                      refine lv_iload hx hb dRG_restore_25 (lv_at hl 0 rfl) ?_
                      refine lv_iload_n hx hb dRG_restore_27 rfl (lv_at hl 2 rfl) ?_
                      refine mi_ge (tgt := 65) hx hb dRG_restore_28 (by decide) (by omega) (by omega) (fun h30 => ?_) (fun h30 => absurd h30 (by omega))
                      refine lv_iinc (k := 3) (v := nI 2) (lv' := [(2, .int (nI 2)), (5, .int (nI i25)), (4, .int (nI 16)), (3, .int (nI 8)), (0, .ref h0), (1, .ref f)]) hx hb dRG_restore_65 hl rfl (by decide) (by decide) rfl (fun ls hl => ?_)
                      refine lv_goto (tgt := 7) hx hb dRG_restore_68 (by decide) ?_
                      refine lv_iload_n hx hb dRG_restore_7 rfl (lv_at hl 0 rfl) ?_
                      refine lv_if_lt (tgt := 71) hx hb dRG_restore_8 (by decide) (fun h31 => absurd h31 (by decide)) (fun h31 => ?_)
                      refine lv_iconst (v := nI 1) hx hb dRG_restore_11 (by decide) ?_
                      refine lv_iload_n hx hb dRG_restore_12 rfl (lv_at hl 0 rfl) ?_
                      refine mi_ishl hx hb dRG_restore_13 (by decide) (by decide) ?_
                      refine mi_as (show nI (1 * 2 ^ 2) = nI 4 from rfl) ?_
                      refine lv_istore_n (lv' := [(3, .int (nI 4)), (2, .int (nI 2)), (5, .int (nI i25)), (4, .int (nI 16)), (0, .ref h0), (1, .ref f)]) hx hb dRG_restore_14 rfl hl (by decide) rfl (fun ls hl => ?_)
                      refine lv_sipush (v := nI 128) hx hb dRG_restore_15 (by decide) ?_
                      refine lv_iload_n hx hb dRG_restore_18 rfl (lv_at hl 1 rfl) ?_
                      refine mi_ishr hx hb dRG_restore_19 (by omega) (by decide) ?_
                      refine mi_as (show nI (128 / 2 ^ 2) = nI (32) from rfl) ?_
                      refine lv_istore (lv' := [(4, .int (nI 32)), (3, .int (nI 4)), (2, .int (nI 2)), (5, .int (nI i25)), (0, .ref h0), (1, .ref f)]) hx hb dRG_restore_20 hl (by decide) rfl (fun ls hl => ?_)
                      refine lv_iconst (v := nI 0) hx hb dRG_restore_22 (by decide) ?_
                      refine lv_istore (lv' := [(5, .int (nI 0)), (4, .int (nI 32)), (3, .int (nI 4)), (2, .int (nI 2)), (0, .ref h0), (1, .ref f)]) hx hb dRG_restore_23 hl (by decide) rfl (fun ls hl => ?_)
                      have lp26 : ∀ (n26 : Nat) (i26 : Nat) (s26 : Sto) (pl : va_W) (ls : Array Slot) (H : Heap) (locs : List Loc), n26 + i26 = 4 → frm (M_RG_restore_8 pf) s s26 → F_RG_restore_8 pf s = F_RG_restore_8_L5 pf n26 i26 s26 → lv_has ls 6 [(5, .int (nI i26)), (4, .int (nI 32)), (3, .int (nI 4)), (2, .int (nI 2)), (0, .ref h0), (1, .ref f)] → okn g T s26 pl → va_P g.1 vcl ([] ++ pl) H → va_D A ([] ++ pl) → va_S A s0.heap H locs → W p l e ({ frames := 1, cells := 0, slots := 0, locals := 28 } : Room) s0 m args below meth c H locs 0 0 (MQ below (va_Qv (fun (u : (Sto) × va_W) => (u.1 = F_RG_restore_8 pf s ∧ frm (M_RG_restore_8 pf) s u.1 ∧ True) ∧ okn g T u.1 u.2) (po g.1 vcl A (fun (u : (Sto) × va_W) => [] ++ u.2)) A) args s0 0 0 A) (F0 m 25 ls []) := by
                        intro n26
                        induction n26 with
                        | zero =>
                          intro i26 s26 pl ls H locs hm26 hF hR hl hO hP hD hS
                          refine lv_iload hx hb dRG_restore_25 (lv_at hl 0 rfl) ?_
                          refine lv_iload_n hx hb dRG_restore_27 rfl (lv_at hl 2 rfl) ?_
                          refine mi_ge (tgt := 65) hx hb dRG_restore_28 (by decide) (by omega) (by omega) (fun h32 => ?_) (fun h32 => absurd h32 (by omega))
                          refine lv_iinc (k := 3) (v := nI 1) (lv' := [(2, .int (nI 1)), (5, .int (nI i26)), (4, .int (nI 32)), (3, .int (nI 4)), (0, .ref h0), (1, .ref f)]) hx hb dRG_restore_65 hl rfl (by decide) (by decide) rfl (fun ls hl => ?_)
                          refine lv_goto (tgt := 7) hx hb dRG_restore_68 (by decide) ?_
                          refine lv_iload_n hx hb dRG_restore_7 rfl (lv_at hl 0 rfl) ?_
                          refine lv_if_lt (tgt := 71) hx hb dRG_restore_8 (by decide) (fun h33 => absurd h33 (by decide)) (fun h33 => ?_)
                          refine lv_iconst (v := nI 1) hx hb dRG_restore_11 (by decide) ?_
                          refine lv_iload_n hx hb dRG_restore_12 rfl (lv_at hl 0 rfl) ?_
                          refine mi_ishl hx hb dRG_restore_13 (by decide) (by decide) ?_
                          refine mi_as (show nI (1 * 2 ^ 1) = nI 2 from rfl) ?_
                          refine lv_istore_n (lv' := [(3, .int (nI 2)), (2, .int (nI 1)), (5, .int (nI i26)), (4, .int (nI 32)), (0, .ref h0), (1, .ref f)]) hx hb dRG_restore_14 rfl hl (by decide) rfl (fun ls hl => ?_)
                          refine lv_sipush (v := nI 128) hx hb dRG_restore_15 (by decide) ?_
                          refine lv_iload_n hx hb dRG_restore_18 rfl (lv_at hl 1 rfl) ?_
                          refine mi_ishr hx hb dRG_restore_19 (by omega) (by decide) ?_
                          refine mi_as (show nI (128 / 2 ^ 1) = nI (64) from rfl) ?_
                          refine lv_istore (lv' := [(4, .int (nI 64)), (3, .int (nI 2)), (2, .int (nI 1)), (5, .int (nI i26)), (0, .ref h0), (1, .ref f)]) hx hb dRG_restore_20 hl (by decide) rfl (fun ls hl => ?_)
                          refine lv_iconst (v := nI 0) hx hb dRG_restore_22 (by decide) ?_
                          refine lv_istore (lv' := [(5, .int (nI 0)), (4, .int (nI 64)), (3, .int (nI 2)), (2, .int (nI 1)), (0, .ref h0), (1, .ref f)]) hx hb dRG_restore_23 hl (by decide) rfl (fun ls hl => ?_)
                          have lp27 : ∀ (n27 : Nat) (i27 : Nat) (s27 : Sto) (pl : va_W) (ls : Array Slot) (H : Heap) (locs : List Loc), n27 + i27 = 2 → frm (M_RG_restore_8 pf) s s27 → F_RG_restore_8 pf s = F_RG_restore_8_L6 pf n27 i27 s27 → lv_has ls 6 [(5, .int (nI i27)), (4, .int (nI 64)), (3, .int (nI 2)), (2, .int (nI 1)), (0, .ref h0), (1, .ref f)] → okn g T s27 pl → va_P g.1 vcl ([] ++ pl) H → va_D A ([] ++ pl) → va_S A s0.heap H locs → W p l e ({ frames := 1, cells := 0, slots := 0, locals := 28 } : Room) s0 m args below meth c H locs 0 0 (MQ below (va_Qv (fun (u : (Sto) × va_W) => (u.1 = F_RG_restore_8 pf s ∧ frm (M_RG_restore_8 pf) s u.1 ∧ True) ∧ okn g T u.1 u.2) (po g.1 vcl A (fun (u : (Sto) × va_W) => [] ++ u.2)) A) args s0 0 0 A) (F0 m 25 ls []) := by
                            intro n27
                            induction n27 with
                            | zero =>
                              intro i27 s27 pl ls H locs hm27 hF hR hl hO hP hD hS
                              refine lv_iload hx hb dRG_restore_25 (lv_at hl 0 rfl) ?_
                              refine lv_iload_n hx hb dRG_restore_27 rfl (lv_at hl 2 rfl) ?_
                              refine mi_ge (tgt := 65) hx hb dRG_restore_28 (by decide) (by omega) (by omega) (fun h34 => ?_) (fun h34 => absurd h34 (by omega))
                              refine lv_iinc (k := 3) (v := nI 0) (lv' := [(2, .int (nI 0)), (5, .int (nI i27)), (4, .int (nI 64)), (3, .int (nI 2)), (0, .ref h0), (1, .ref f)]) hx hb dRG_restore_65 hl rfl (by decide) (by decide) rfl (fun ls hl => ?_)
                              refine lv_goto (tgt := 7) hx hb dRG_restore_68 (by decide) ?_
                              refine lv_iload_n hx hb dRG_restore_7 rfl (lv_at hl 0 rfl) ?_
                              refine lv_if_lt (tgt := 71) hx hb dRG_restore_8 (by decide) (fun h35 => absurd h35 (by decide)) (fun h35 => ?_)
                              refine lv_iconst (v := nI 1) hx hb dRG_restore_11 (by decide) ?_
                              refine lv_iload_n hx hb dRG_restore_12 rfl (lv_at hl 0 rfl) ?_
                              refine mi_ishl hx hb dRG_restore_13 (by decide) (by decide) ?_
                              refine mi_as (show nI (1 * 2 ^ 0) = nI 1 from rfl) ?_
                              refine lv_istore_n (lv' := [(3, .int (nI 1)), (2, .int (nI 0)), (5, .int (nI i27)), (4, .int (nI 64)), (0, .ref h0), (1, .ref f)]) hx hb dRG_restore_14 rfl hl (by decide) rfl (fun ls hl => ?_)
                              refine lv_sipush (v := nI 128) hx hb dRG_restore_15 (by decide) ?_
                              refine lv_iload_n hx hb dRG_restore_18 rfl (lv_at hl 1 rfl) ?_
                              refine mi_ishr hx hb dRG_restore_19 (by omega) (by decide) ?_
                              refine mi_as (show nI (128 / 2 ^ 0) = nI (128) from rfl) ?_
                              refine lv_istore (lv' := [(4, .int (nI 128)), (3, .int (nI 1)), (2, .int (nI 0)), (5, .int (nI i27)), (0, .ref h0), (1, .ref f)]) hx hb dRG_restore_20 hl (by decide) rfl (fun ls hl => ?_)
                              refine lv_iconst (v := nI 0) hx hb dRG_restore_22 (by decide) ?_
                              refine lv_istore (lv' := [(5, .int (nI 0)), (4, .int (nI 128)), (3, .int (nI 1)), (2, .int (nI 0)), (0, .ref h0), (1, .ref f)]) hx hb dRG_restore_23 hl (by decide) rfl (fun ls hl => ?_)
                              have lp28 : ∀ (n28 : Nat) (i28 : Nat) (s28 : Sto) (pl : va_W) (ls : Array Slot) (H : Heap) (locs : List Loc), n28 + i28 = 1 → frm (M_RG_restore_8 pf) s s28 → F_RG_restore_8 pf s = F_RG_restore_8_L7 pf n28 i28 s28 → lv_has ls 6 [(5, .int (nI i28)), (4, .int (nI 128)), (3, .int (nI 1)), (2, .int (nI 0)), (0, .ref h0), (1, .ref f)] → okn g T s28 pl → va_P g.1 vcl ([] ++ pl) H → va_D A ([] ++ pl) → va_S A s0.heap H locs → W p l e ({ frames := 1, cells := 0, slots := 0, locals := 28 } : Room) s0 m args below meth c H locs 0 0 (MQ below (va_Qv (fun (u : (Sto) × va_W) => (u.1 = F_RG_restore_8 pf s ∧ frm (M_RG_restore_8 pf) s u.1 ∧ True) ∧ okn g T u.1 u.2) (po g.1 vcl A (fun (u : (Sto) × va_W) => [] ++ u.2)) A) args s0 0 0 A) (F0 m 25 ls []) := by
                                intro n28
                                induction n28 with
                                | zero =>
                                  intro i28 s28 pl ls H locs hm28 hF hR hl hO hP hD hS
                                  refine lv_iload hx hb dRG_restore_25 (lv_at hl 0 rfl) ?_
                                  refine lv_iload_n hx hb dRG_restore_27 rfl (lv_at hl 2 rfl) ?_
                                  refine mi_ge (tgt := 65) hx hb dRG_restore_28 (by decide) (by omega) (by omega) (fun h36 => ?_) (fun h36 => absurd h36 (by omega))
                                  refine lv_iinc (k := 3) (v := (-1)) (lv' := [(2, .int (-1)), (5, .int (nI i28)), (4, .int (nI 128)), (3, .int (nI 1)), (0, .ref h0), (1, .ref f)]) hx hb dRG_restore_65 hl rfl (by decide) (by decide) rfl (fun ls hl => ?_)
                                  refine lv_goto (tgt := 7) hx hb dRG_restore_68 (by decide) ?_
                                  refine lv_iload_n hx hb dRG_restore_7 rfl (lv_at hl 0 rfl) ?_
                                  refine lv_if_lt (tgt := 71) hx hb dRG_restore_8 (by decide) (fun h37 => ?_) (fun h37 => absurd h37 (by decide))
                                  refine lv_iconst (v := nI 0) hx hb dRG_restore_71 (by decide) ?_
                                  refine lv_istore_n (lv' := [(2, .int (nI 0)), (5, .int (nI i28)), (4, .int (nI 128)), (3, .int (nI 1)), (0, .ref h0), (1, .ref f)]) hx hb dRG_restore_72 rfl hl (by decide) rfl (fun ls hl => ?_)
                                  have lp29 : ∀ (n29 : Nat) (i29 : Nat) (s29 : Sto) (pl : va_W) (ls : Array Slot) (H : Heap) (locs : List Loc), n29 + i29 = 256 → frm (M_RG_restore_8 pf) s s29 → F_RG_restore_8 pf s = F_RG_restore_8_L8 pf n29 i29 s29 → lv_has ls 6 [(2, .int (nI i29)), (0, .ref h0), (1, .ref f)] → okn g T s29 pl → va_P g.1 vcl ([] ++ pl) H → va_D A ([] ++ pl) → va_S A s0.heap H locs → W p l e ({ frames := 1, cells := 0, slots := 0, locals := 28 } : Room) s0 m args below meth c H locs 0 0 (MQ below (va_Qv (fun (u : (Sto) × va_W) => (u.1 = F_RG_restore_8 pf s ∧ frm (M_RG_restore_8 pf) s u.1 ∧ True) ∧ okn g T u.1 u.2) (po g.1 vcl A (fun (u : (Sto) × va_W) => [] ++ u.2)) A) args s0 0 0 A) (F0 m 73 ls []) := by
                                    intro n29
                                    induction n29 with
                                    | zero =>
                                      intro i29 s29 pl ls H locs hm29 hF hR hl hO hP hD hS
                                      refine lv_iload_n hx hb dRG_restore_73 rfl (lv_at hl 0 rfl) ?_
                                      refine lv_sipush (v := nI 256) hx hb dRG_restore_74 (by decide) ?_
                                      refine mi_ge (tgt := 106) hx hb dRG_restore_77 (by decide) (by omega) (by omega) (fun h38 => ?_) (fun h38 => absurd h38 (by omega))
                                      exact mp_vret hx hb hr hlk hP hD hS (s29, pl) ⟨⟨hR.symm, hF, trivial⟩, hO⟩ [] rfl rfl rfl (by omega) (by omega) dRG_restore_106
                                    | succ n29 ih29 =>
                                      intro i29 s29 pl ls H locs hm29 hF hR hl hO hP hD hS
                                      refine lv_iload_n hx hb dRG_restore_73 rfl (lv_at hl 0 rfl) ?_
                                      refine lv_sipush (v := nI 256) hx hb dRG_restore_74 (by decide) ?_
                                      refine mi_ge (tgt := 106) hx hb dRG_restore_77 (by decide) (by omega) (by omega) (fun h39 => absurd h39 (by omega)) (fun h39 => ?_)
                                      refine lv_aload_n hx hb dRG_restore_80 rfl (lv_at hl 2 rfl) ?_
                                      refine lv_iload_n hx hb dRG_restore_81 rfl (lv_at hl 0 rfl) ?_
                                      refine lv_aload_n hx hb dRG_restore_82 rfl (lv_at hl 2 rfl) ?_
                                      refine lv_iload_n hx hb dRG_restore_83 rfl (lv_at hl 0 rfl) ?_
                                      refine nw_iald hx hb hK hO k_f (k := pf) n_f hP (by omega) (by omega) dRG_restore_84 ?_
                                      refine lv_i2l hx hb dRG_restore_85 rfl ?_
                                      refine lv_aload_n hx hb dRG_restore_86 rfl (lv_at hl 1 rfl) ?_
                                      refine nw_get (C := "LatticeKeys$Ring") (TT := T_RG) (N := 4) hx hb hts (wg_ft i_RG) hown hK hO k_h0 (kn := 22) (ci := 4) (fl := [(1, 8380417), (1, 8), (1, 8347681), (3, 23)]) rfl hP rfl 2 (by decide) (hts _ (wg_t kw_93)) (fun _ h9 => h9) (cd := (1, 8347681)) rfl dRG_restore_87 (fun v22 hv22 => ?_)
                                      obtain rfl := (show v22 = .int (nI 8347681) from hv22)
                                      refine lv_i2l hx hb dRG_restore_90 rfl ?_
                                      refine lv_lmul hx hb dRG_restore_91 ?_
                                      refine lv_aload_n hx hb dRG_restore_92 rfl (lv_at hl 1 rfl) ?_
                                      refine nw_get (C := "LatticeKeys$Ring") (TT := T_RG) (N := 4) hx hb hts (wg_ft i_RG) hown hK hO k_h0 (kn := 22) (ci := 4) (fl := [(1, 8380417), (1, 8), (1, 8347681), (3, 23)]) rfl hP rfl 0 (by decide) (hts _ (wg_t kw_91)) (fun _ h9 => h9) (cd := (1, 8380417)) rfl dRG_restore_93 (fun v23 hv23 => ?_)
                                      obtain rfl := (show v23 = .int (nI 8380417) from hv23)
                                      refine lv_i2l hx hb dRG_restore_96 rfl ?_
                                      refine lv_lrem hx hb dRG_restore_97 (by decide) ?_
                                      refine lv_l2i hx hb dRG_restore_98 rfl ?_
                                      refine nw_iast hx hb hK hO hU k_f (k := pf) n_f hP hD hS (by omega) (by omega) dRG_restore_99 (fun s30 pl H locs es21 hO hP hD hS => ?_)
                                      replace hR := bnd_step hR es21
                                      have hF := frm_sI hF es21 (by unfold M_RG_restore_8; omega)
                                      refine mi_iinc (k := 0) (x := i29) (d := 1) (y := i29 + 1) (lv' := [(2, .int (nI (i29 + 1))), (0, .ref h0), (1, .ref f)]) hx hb dRG_restore_100 hl rfl (by decide) rfl (by decide) rfl (fun ls hl => ?_)
                                      refine lv_goto (tgt := 73) hx hb dRG_restore_103 (by decide) ?_
                                      exact ih29 (i29 + 1) s30 pl ls H locs (by omega) hF hR (lv_sub hl [0, 1, 2] rfl) hO hP hD hS
                                  exact lp29 256 0 s28 pl ls _ _ (by omega) hF hR (lv_sub hl [0, 4, 5] rfl) hO hP hD hS
                                | succ n28 ih28 =>
                                  intro i28 s28 pl ls H locs hm28 hF hR hl hO hP hD hS
                                  refine lv_iload hx hb dRG_restore_25 (lv_at hl 0 rfl) ?_
                                  refine lv_iload_n hx hb dRG_restore_27 rfl (lv_at hl 2 rfl) ?_
                                  refine mi_ge (tgt := 65) hx hb dRG_restore_28 (by decide) (by omega) (by omega) (fun h40 => absurd h40 (by omega)) (fun h40 => ?_)
                                  refine lv_aload_n hx hb dRG_restore_31 rfl (lv_at hl 4 rfl) ?_
                                  refine lv_aload_n hx hb dRG_restore_32 rfl (lv_at hl 5 rfl) ?_
                                  refine lv_iconst (v := nI 2) hx hb dRG_restore_33 (by decide) ?_
                                  refine lv_iload hx hb dRG_restore_34 (lv_at hl 1 rfl) ?_
                                  refine mi_imul hx hb dRG_restore_36 ?_
                                  refine mi_as (show nI (2 * 128) = nI 256 from rfl) ?_
                                  refine lv_iload hx hb dRG_restore_37 (lv_at hl 0 rfl) ?_
                                  refine mi_imul hx hb dRG_restore_39 ?_
                                  refine lv_iload hx hb dRG_restore_40 (lv_at hl 1 rfl) ?_
                                  refine lv_aload_n hx hb dRG_restore_42 rfl (lv_at hl 4 rfl) ?_
                                  refine nw_get (C := "LatticeKeys$Ring") (TT := T_RG) (N := 4) hx hb hts (wg_ft i_RG) hown hK hO k_h0 (kn := 22) (ci := 4) (fl := [(1, 8380417), (1, 8), (1, 8347681), (3, 23)]) rfl hP rfl 3 (by decide) (hts _ (wg_t kw_94)) (fun _ h9 => h9) (cd := (3, 23)) rfl dRG_restore_43 (fun v24 hv24 => ?_)
                                  obtain ⟨r21, rfl, kr21⟩ := (show ∃ r : Nat, v24 = .ref r ∧ T r = some 23 from hv24)
                                  refine lv_iconst (v := nI 2) hx hb dRG_restore_46 (by decide) ?_
                                  refine lv_iload_n hx hb dRG_restore_47 rfl (lv_at hl 2 rfl) ?_
                                  refine mi_imul hx hb dRG_restore_48 ?_
                                  refine mi_as (show nI (2 * 1) = nI 2 from rfl) ?_
                                  refine lv_iconst (v := nI 1) hx hb dRG_restore_49 (by decide) ?_
                                  refine mi_isub hx hb dRG_restore_50 (by omega) ?_
                                  refine mi_as (show nI (2 - 1) = nI 1 from rfl) ?_
                                  refine lv_iload hx hb dRG_restore_51 (lv_at hl 0 rfl) ?_
                                  refine mi_isub hx hb dRG_restore_53 (by omega) ?_
                                  refine nw_ialdT hx hb hK hO kr21 (k := 23) (d := 2) rfl hP (by omega) (by omega) dRG_restore_54 ?_
                                  refine lv_i2l hx hb dRG_restore_55 rfl ?_
                                  refine mp_v (cx := []) (wr := []) hP hD hS hA [] [] rfl rfl rfl (by decide) (va_runV (As := [.ref f, .int (nI (256 * i28)), .int (nI 128), .long ((ctI 2 (1 - i28)).toInt64)]) (rest := []) F (N_RG_gather_8 l g _ T s28 pl hO hU h0 f pf (256 * i28) 128 ((ctI 2 (1 - i28)).toInt64) k_h0 k_f n_f (by omega)) (cwV 4 hts (wg_app (wg_c kw_724 (wg_c kw_726 (wg_c ks_16 (wg_c kw_4 wg_n)))) kw_727) rfl rfl rfl (by decide +kernel) ⟨by decide, by decide⟩) (pn_W "LatticeKeys$Ring" (en_ok g) (ci := 4) (kn := 22) (fl := [(1, 8380417), (1, 8), (1, 8347681), (3, 23)]) hK hO k_h0 rfl hP hD hS hA hE [] rfl rfl rfl) rfl rfl hl.1 rfl (lv_room (Nat.le_of_ble_eq_true rfl)) dRG_restore_56 ⟨by omega, by omega⟩) (fun  u21 H locs hu21 hP hD hS => ?_)
                                  obtain ⟨s31, pl⟩ := u21
                                  obtain ⟨⟨eq21, hFc21, -⟩, hO⟩ := hu21
                                  have hO : okn g T s31 pl := hO
                                  have hP : va_P g.1 vcl ([] ++ pl) _ := hP
                                  have hD : va_D _ ([] ++ pl) := hD
                                  have hFc21 : frm (M_RG_gather_8 pf) s28 s31 := hFc21
                                  replace hR := bnd_step hR eq21
                                  have hF := frm_tr hF hFc21 (fun k hk => by unfold M_RG_gather_8 at hk; unfold M_RG_restore_8; omega)
                                  refine W.widen (k := 0) (n := 0) (by omega) (by omega) ?_
                                  refine mi_iinc (k := 0) (x := i28) (d := 1) (y := i28 + 1) (lv' := [(5, .int (nI (i28 + 1))), (4, .int (nI 128)), (3, .int (nI 1)), (2, .int (nI 0)), (0, .ref h0), (1, .ref f)]) hx hb dRG_restore_59 hl rfl (by decide) rfl (by decide) rfl (fun ls hl => ?_)
                                  refine lv_goto (tgt := 25) hx hb dRG_restore_62 (by decide) ?_
                                  exact ih28 (i28 + 1) s31 pl ls H locs (by omega) hF hR (lv_sub hl [0, 1, 2, 3, 4, 5] rfl) hO hP hD hS
                              exact lp28 1 0 s27 pl ls _ _ (by omega) hF hR (lv_sub hl [0, 1, 2, 3, 4, 5] rfl) hO hP hD hS
                            | succ n27 ih27 =>
                              intro i27 s27 pl ls H locs hm27 hF hR hl hO hP hD hS
                              refine lv_iload hx hb dRG_restore_25 (lv_at hl 0 rfl) ?_
                              refine lv_iload_n hx hb dRG_restore_27 rfl (lv_at hl 2 rfl) ?_
                              refine mi_ge (tgt := 65) hx hb dRG_restore_28 (by decide) (by omega) (by omega) (fun h41 => absurd h41 (by omega)) (fun h41 => ?_)
                              refine lv_aload_n hx hb dRG_restore_31 rfl (lv_at hl 4 rfl) ?_
                              refine lv_aload_n hx hb dRG_restore_32 rfl (lv_at hl 5 rfl) ?_
                              refine lv_iconst (v := nI 2) hx hb dRG_restore_33 (by decide) ?_
                              refine lv_iload hx hb dRG_restore_34 (lv_at hl 1 rfl) ?_
                              refine mi_imul hx hb dRG_restore_36 ?_
                              refine mi_as (show nI (2 * 64) = nI 128 from rfl) ?_
                              refine lv_iload hx hb dRG_restore_37 (lv_at hl 0 rfl) ?_
                              refine mi_imul hx hb dRG_restore_39 ?_
                              refine lv_iload hx hb dRG_restore_40 (lv_at hl 1 rfl) ?_
                              refine lv_aload_n hx hb dRG_restore_42 rfl (lv_at hl 4 rfl) ?_
                              refine nw_get (C := "LatticeKeys$Ring") (TT := T_RG) (N := 4) hx hb hts (wg_ft i_RG) hown hK hO k_h0 (kn := 22) (ci := 4) (fl := [(1, 8380417), (1, 8), (1, 8347681), (3, 23)]) rfl hP rfl 3 (by decide) (hts _ (wg_t kw_94)) (fun _ h9 => h9) (cd := (3, 23)) rfl dRG_restore_43 (fun v25 hv25 => ?_)
                              obtain ⟨r22, rfl, kr22⟩ := (show ∃ r : Nat, v25 = .ref r ∧ T r = some 23 from hv25)
                              refine lv_iconst (v := nI 2) hx hb dRG_restore_46 (by decide) ?_
                              refine lv_iload_n hx hb dRG_restore_47 rfl (lv_at hl 2 rfl) ?_
                              refine mi_imul hx hb dRG_restore_48 ?_
                              refine mi_as (show nI (2 * 2) = nI 4 from rfl) ?_
                              refine lv_iconst (v := nI 1) hx hb dRG_restore_49 (by decide) ?_
                              refine mi_isub hx hb dRG_restore_50 (by omega) ?_
                              refine mi_as (show nI (4 - 1) = nI 3 from rfl) ?_
                              refine lv_iload hx hb dRG_restore_51 (lv_at hl 0 rfl) ?_
                              refine mi_isub hx hb dRG_restore_53 (by omega) ?_
                              refine nw_ialdT hx hb hK hO kr22 (k := 23) (d := 2) rfl hP (by omega) (by omega) dRG_restore_54 ?_
                              refine lv_i2l hx hb dRG_restore_55 rfl ?_
                              refine mp_v (cx := []) (wr := []) hP hD hS hA [] [] rfl rfl rfl (by decide) (va_runV (As := [.ref f, .int (nI (128 * i27)), .int (nI 64), .long ((ctI 2 (3 - i27)).toInt64)]) (rest := []) F (N_RG_gather_8 l g _ T s27 pl hO hU h0 f pf (128 * i27) 64 ((ctI 2 (3 - i27)).toInt64) k_h0 k_f n_f (by omega)) (cwV 4 hts (wg_app (wg_c kw_724 (wg_c kw_726 (wg_c ks_16 (wg_c kw_4 wg_n)))) kw_727) rfl rfl rfl (by decide +kernel) ⟨by decide, by decide⟩) (pn_W "LatticeKeys$Ring" (en_ok g) (ci := 4) (kn := 22) (fl := [(1, 8380417), (1, 8), (1, 8347681), (3, 23)]) hK hO k_h0 rfl hP hD hS hA hE [] rfl rfl rfl) rfl rfl hl.1 rfl (lv_room (Nat.le_of_ble_eq_true rfl)) dRG_restore_56 ⟨by omega, by omega⟩) (fun  u22 H locs hu22 hP hD hS => ?_)
                              obtain ⟨s32, pl⟩ := u22
                              obtain ⟨⟨eq22, hFc22, -⟩, hO⟩ := hu22
                              have hO : okn g T s32 pl := hO
                              have hP : va_P g.1 vcl ([] ++ pl) _ := hP
                              have hD : va_D _ ([] ++ pl) := hD
                              have hFc22 : frm (M_RG_gather_8 pf) s27 s32 := hFc22
                              replace hR := bnd_step hR eq22
                              have hF := frm_tr hF hFc22 (fun k hk => by unfold M_RG_gather_8 at hk; unfold M_RG_restore_8; omega)
                              refine W.widen (k := 0) (n := 0) (by omega) (by omega) ?_
                              refine mi_iinc (k := 0) (x := i27) (d := 1) (y := i27 + 1) (lv' := [(5, .int (nI (i27 + 1))), (4, .int (nI 64)), (3, .int (nI 2)), (2, .int (nI 1)), (0, .ref h0), (1, .ref f)]) hx hb dRG_restore_59 hl rfl (by decide) rfl (by decide) rfl (fun ls hl => ?_)
                              refine lv_goto (tgt := 25) hx hb dRG_restore_62 (by decide) ?_
                              exact ih27 (i27 + 1) s32 pl ls H locs (by omega) hF hR (lv_sub hl [0, 1, 2, 3, 4, 5] rfl) hO hP hD hS
                          exact lp27 2 0 s26 pl ls _ _ (by omega) hF hR (lv_sub hl [0, 1, 2, 3, 4, 5] rfl) hO hP hD hS
                        | succ n26 ih26 =>
                          intro i26 s26 pl ls H locs hm26 hF hR hl hO hP hD hS
                          refine lv_iload hx hb dRG_restore_25 (lv_at hl 0 rfl) ?_
                          refine lv_iload_n hx hb dRG_restore_27 rfl (lv_at hl 2 rfl) ?_
                          refine mi_ge (tgt := 65) hx hb dRG_restore_28 (by decide) (by omega) (by omega) (fun h42 => absurd h42 (by omega)) (fun h42 => ?_)
                          refine lv_aload_n hx hb dRG_restore_31 rfl (lv_at hl 4 rfl) ?_
                          refine lv_aload_n hx hb dRG_restore_32 rfl (lv_at hl 5 rfl) ?_
                          refine lv_iconst (v := nI 2) hx hb dRG_restore_33 (by decide) ?_
                          refine lv_iload hx hb dRG_restore_34 (lv_at hl 1 rfl) ?_
                          refine mi_imul hx hb dRG_restore_36 ?_
                          refine mi_as (show nI (2 * 32) = nI 64 from rfl) ?_
                          refine lv_iload hx hb dRG_restore_37 (lv_at hl 0 rfl) ?_
                          refine mi_imul hx hb dRG_restore_39 ?_
                          refine lv_iload hx hb dRG_restore_40 (lv_at hl 1 rfl) ?_
                          refine lv_aload_n hx hb dRG_restore_42 rfl (lv_at hl 4 rfl) ?_
                          refine nw_get (C := "LatticeKeys$Ring") (TT := T_RG) (N := 4) hx hb hts (wg_ft i_RG) hown hK hO k_h0 (kn := 22) (ci := 4) (fl := [(1, 8380417), (1, 8), (1, 8347681), (3, 23)]) rfl hP rfl 3 (by decide) (hts _ (wg_t kw_94)) (fun _ h9 => h9) (cd := (3, 23)) rfl dRG_restore_43 (fun v26 hv26 => ?_)
                          obtain ⟨r23, rfl, kr23⟩ := (show ∃ r : Nat, v26 = .ref r ∧ T r = some 23 from hv26)
                          refine lv_iconst (v := nI 2) hx hb dRG_restore_46 (by decide) ?_
                          refine lv_iload_n hx hb dRG_restore_47 rfl (lv_at hl 2 rfl) ?_
                          refine mi_imul hx hb dRG_restore_48 ?_
                          refine mi_as (show nI (2 * 4) = nI 8 from rfl) ?_
                          refine lv_iconst (v := nI 1) hx hb dRG_restore_49 (by decide) ?_
                          refine mi_isub hx hb dRG_restore_50 (by omega) ?_
                          refine mi_as (show nI (8 - 1) = nI 7 from rfl) ?_
                          refine lv_iload hx hb dRG_restore_51 (lv_at hl 0 rfl) ?_
                          refine mi_isub hx hb dRG_restore_53 (by omega) ?_
                          refine nw_ialdT hx hb hK hO kr23 (k := 23) (d := 2) rfl hP (by omega) (by omega) dRG_restore_54 ?_
                          refine lv_i2l hx hb dRG_restore_55 rfl ?_
                          refine mp_v (cx := []) (wr := []) hP hD hS hA [] [] rfl rfl rfl (by decide) (va_runV (As := [.ref f, .int (nI (64 * i26)), .int (nI 32), .long ((ctI 2 (7 - i26)).toInt64)]) (rest := []) F (N_RG_gather_8 l g _ T s26 pl hO hU h0 f pf (64 * i26) 32 ((ctI 2 (7 - i26)).toInt64) k_h0 k_f n_f (by omega)) (cwV 4 hts (wg_app (wg_c kw_724 (wg_c kw_726 (wg_c ks_16 (wg_c kw_4 wg_n)))) kw_727) rfl rfl rfl (by decide +kernel) ⟨by decide, by decide⟩) (pn_W "LatticeKeys$Ring" (en_ok g) (ci := 4) (kn := 22) (fl := [(1, 8380417), (1, 8), (1, 8347681), (3, 23)]) hK hO k_h0 rfl hP hD hS hA hE [] rfl rfl rfl) rfl rfl hl.1 rfl (lv_room (Nat.le_of_ble_eq_true rfl)) dRG_restore_56 ⟨by omega, by omega⟩) (fun  u23 H locs hu23 hP hD hS => ?_)
                          obtain ⟨s33, pl⟩ := u23
                          obtain ⟨⟨eq23, hFc23, -⟩, hO⟩ := hu23
                          have hO : okn g T s33 pl := hO
                          have hP : va_P g.1 vcl ([] ++ pl) _ := hP
                          have hD : va_D _ ([] ++ pl) := hD
                          have hFc23 : frm (M_RG_gather_8 pf) s26 s33 := hFc23
                          replace hR := bnd_step hR eq23
                          have hF := frm_tr hF hFc23 (fun k hk => by unfold M_RG_gather_8 at hk; unfold M_RG_restore_8; omega)
                          refine W.widen (k := 0) (n := 0) (by omega) (by omega) ?_
                          refine mi_iinc (k := 0) (x := i26) (d := 1) (y := i26 + 1) (lv' := [(5, .int (nI (i26 + 1))), (4, .int (nI 32)), (3, .int (nI 4)), (2, .int (nI 2)), (0, .ref h0), (1, .ref f)]) hx hb dRG_restore_59 hl rfl (by decide) rfl (by decide) rfl (fun ls hl => ?_)
                          refine lv_goto (tgt := 25) hx hb dRG_restore_62 (by decide) ?_
                          exact ih26 (i26 + 1) s33 pl ls H locs (by omega) hF hR (lv_sub hl [0, 1, 2, 3, 4, 5] rfl) hO hP hD hS
                      exact lp26 4 0 s25 pl ls _ _ (by omega) hF hR (lv_sub hl [0, 1, 2, 3, 4, 5] rfl) hO hP hD hS
                    | succ n25 ih25 =>
                      intro i25 s25 pl ls H locs hm25 hF hR hl hO hP hD hS
                      refine lv_iload hx hb dRG_restore_25 (lv_at hl 0 rfl) ?_
                      refine lv_iload_n hx hb dRG_restore_27 rfl (lv_at hl 2 rfl) ?_
                      refine mi_ge (tgt := 65) hx hb dRG_restore_28 (by decide) (by omega) (by omega) (fun h43 => absurd h43 (by omega)) (fun h43 => ?_)
                      refine lv_aload_n hx hb dRG_restore_31 rfl (lv_at hl 4 rfl) ?_
                      refine lv_aload_n hx hb dRG_restore_32 rfl (lv_at hl 5 rfl) ?_
                      refine lv_iconst (v := nI 2) hx hb dRG_restore_33 (by decide) ?_
                      refine lv_iload hx hb dRG_restore_34 (lv_at hl 1 rfl) ?_
                      refine mi_imul hx hb dRG_restore_36 ?_
                      refine mi_as (show nI (2 * 16) = nI 32 from rfl) ?_
                      refine lv_iload hx hb dRG_restore_37 (lv_at hl 0 rfl) ?_
                      refine mi_imul hx hb dRG_restore_39 ?_
                      refine lv_iload hx hb dRG_restore_40 (lv_at hl 1 rfl) ?_
                      refine lv_aload_n hx hb dRG_restore_42 rfl (lv_at hl 4 rfl) ?_
                      refine nw_get (C := "LatticeKeys$Ring") (TT := T_RG) (N := 4) hx hb hts (wg_ft i_RG) hown hK hO k_h0 (kn := 22) (ci := 4) (fl := [(1, 8380417), (1, 8), (1, 8347681), (3, 23)]) rfl hP rfl 3 (by decide) (hts _ (wg_t kw_94)) (fun _ h9 => h9) (cd := (3, 23)) rfl dRG_restore_43 (fun v27 hv27 => ?_)
                      obtain ⟨r24, rfl, kr24⟩ := (show ∃ r : Nat, v27 = .ref r ∧ T r = some 23 from hv27)
                      refine lv_iconst (v := nI 2) hx hb dRG_restore_46 (by decide) ?_
                      refine lv_iload_n hx hb dRG_restore_47 rfl (lv_at hl 2 rfl) ?_
                      refine mi_imul hx hb dRG_restore_48 ?_
                      refine mi_as (show nI (2 * 8) = nI 16 from rfl) ?_
                      refine lv_iconst (v := nI 1) hx hb dRG_restore_49 (by decide) ?_
                      refine mi_isub hx hb dRG_restore_50 (by omega) ?_
                      refine mi_as (show nI (16 - 1) = nI 15 from rfl) ?_
                      refine lv_iload hx hb dRG_restore_51 (lv_at hl 0 rfl) ?_
                      refine mi_isub hx hb dRG_restore_53 (by omega) ?_
                      refine nw_ialdT hx hb hK hO kr24 (k := 23) (d := 2) rfl hP (by omega) (by omega) dRG_restore_54 ?_
                      refine lv_i2l hx hb dRG_restore_55 rfl ?_
                      refine mp_v (cx := []) (wr := []) hP hD hS hA [] [] rfl rfl rfl (by decide) (va_runV (As := [.ref f, .int (nI (32 * i25)), .int (nI 16), .long ((ctI 2 (15 - i25)).toInt64)]) (rest := []) F (N_RG_gather_8 l g _ T s25 pl hO hU h0 f pf (32 * i25) 16 ((ctI 2 (15 - i25)).toInt64) k_h0 k_f n_f (by omega)) (cwV 4 hts (wg_app (wg_c kw_724 (wg_c kw_726 (wg_c ks_16 (wg_c kw_4 wg_n)))) kw_727) rfl rfl rfl (by decide +kernel) ⟨by decide, by decide⟩) (pn_W "LatticeKeys$Ring" (en_ok g) (ci := 4) (kn := 22) (fl := [(1, 8380417), (1, 8), (1, 8347681), (3, 23)]) hK hO k_h0 rfl hP hD hS hA hE [] rfl rfl rfl) rfl rfl hl.1 rfl (lv_room (Nat.le_of_ble_eq_true rfl)) dRG_restore_56 ⟨by omega, by omega⟩) (fun  u24 H locs hu24 hP hD hS => ?_)
                      obtain ⟨s34, pl⟩ := u24
                      obtain ⟨⟨eq24, hFc24, -⟩, hO⟩ := hu24
                      have hO : okn g T s34 pl := hO
                      have hP : va_P g.1 vcl ([] ++ pl) _ := hP
                      have hD : va_D _ ([] ++ pl) := hD
                      have hFc24 : frm (M_RG_gather_8 pf) s25 s34 := hFc24
                      replace hR := bnd_step hR eq24
                      have hF := frm_tr hF hFc24 (fun k hk => by unfold M_RG_gather_8 at hk; unfold M_RG_restore_8; omega)
                      refine W.widen (k := 0) (n := 0) (by omega) (by omega) ?_
                      refine mi_iinc (k := 0) (x := i25) (d := 1) (y := i25 + 1) (lv' := [(5, .int (nI (i25 + 1))), (4, .int (nI 16)), (3, .int (nI 8)), (2, .int (nI 3)), (0, .ref h0), (1, .ref f)]) hx hb dRG_restore_59 hl rfl (by decide) rfl (by decide) rfl (fun ls hl => ?_)
                      refine lv_goto (tgt := 25) hx hb dRG_restore_62 (by decide) ?_
                      exact ih25 (i25 + 1) s34 pl ls H locs (by omega) hF hR (lv_sub hl [0, 1, 2, 3, 4, 5] rfl) hO hP hD hS
                  exact lp25 8 0 s24 pl ls _ _ (by omega) hF hR (lv_sub hl [0, 1, 2, 3, 4, 5] rfl) hO hP hD hS
                | succ n24 ih24 =>
                  intro i24 s24 pl ls H locs hm24 hF hR hl hO hP hD hS
                  refine lv_iload hx hb dRG_restore_25 (lv_at hl 0 rfl) ?_
                  refine lv_iload_n hx hb dRG_restore_27 rfl (lv_at hl 2 rfl) ?_
                  refine mi_ge (tgt := 65) hx hb dRG_restore_28 (by decide) (by omega) (by omega) (fun h44 => absurd h44 (by omega)) (fun h44 => ?_)
                  refine lv_aload_n hx hb dRG_restore_31 rfl (lv_at hl 4 rfl) ?_
                  refine lv_aload_n hx hb dRG_restore_32 rfl (lv_at hl 5 rfl) ?_
                  refine lv_iconst (v := nI 2) hx hb dRG_restore_33 (by decide) ?_
                  refine lv_iload hx hb dRG_restore_34 (lv_at hl 1 rfl) ?_
                  refine mi_imul hx hb dRG_restore_36 ?_
                  refine mi_as (show nI (2 * 8) = nI 16 from rfl) ?_
                  refine lv_iload hx hb dRG_restore_37 (lv_at hl 0 rfl) ?_
                  refine mi_imul hx hb dRG_restore_39 ?_
                  refine lv_iload hx hb dRG_restore_40 (lv_at hl 1 rfl) ?_
                  refine lv_aload_n hx hb dRG_restore_42 rfl (lv_at hl 4 rfl) ?_
                  refine nw_get (C := "LatticeKeys$Ring") (TT := T_RG) (N := 4) hx hb hts (wg_ft i_RG) hown hK hO k_h0 (kn := 22) (ci := 4) (fl := [(1, 8380417), (1, 8), (1, 8347681), (3, 23)]) rfl hP rfl 3 (by decide) (hts _ (wg_t kw_94)) (fun _ h9 => h9) (cd := (3, 23)) rfl dRG_restore_43 (fun v28 hv28 => ?_)
                  obtain ⟨r25, rfl, kr25⟩ := (show ∃ r : Nat, v28 = .ref r ∧ T r = some 23 from hv28)
                  refine lv_iconst (v := nI 2) hx hb dRG_restore_46 (by decide) ?_
                  refine lv_iload_n hx hb dRG_restore_47 rfl (lv_at hl 2 rfl) ?_
                  refine mi_imul hx hb dRG_restore_48 ?_
                  refine mi_as (show nI (2 * 16) = nI 32 from rfl) ?_
                  refine lv_iconst (v := nI 1) hx hb dRG_restore_49 (by decide) ?_
                  refine mi_isub hx hb dRG_restore_50 (by omega) ?_
                  refine mi_as (show nI (32 - 1) = nI 31 from rfl) ?_
                  refine lv_iload hx hb dRG_restore_51 (lv_at hl 0 rfl) ?_
                  refine mi_isub hx hb dRG_restore_53 (by omega) ?_
                  refine nw_ialdT hx hb hK hO kr25 (k := 23) (d := 2) rfl hP (by omega) (by omega) dRG_restore_54 ?_
                  refine lv_i2l hx hb dRG_restore_55 rfl ?_
                  refine mp_v (cx := []) (wr := []) hP hD hS hA [] [] rfl rfl rfl (by decide) (va_runV (As := [.ref f, .int (nI (16 * i24)), .int (nI 8), .long ((ctI 2 (31 - i24)).toInt64)]) (rest := []) F (N_RG_gather_8 l g _ T s24 pl hO hU h0 f pf (16 * i24) 8 ((ctI 2 (31 - i24)).toInt64) k_h0 k_f n_f (by omega)) (cwV 4 hts (wg_app (wg_c kw_724 (wg_c kw_726 (wg_c ks_16 (wg_c kw_4 wg_n)))) kw_727) rfl rfl rfl (by decide +kernel) ⟨by decide, by decide⟩) (pn_W "LatticeKeys$Ring" (en_ok g) (ci := 4) (kn := 22) (fl := [(1, 8380417), (1, 8), (1, 8347681), (3, 23)]) hK hO k_h0 rfl hP hD hS hA hE [] rfl rfl rfl) rfl rfl hl.1 rfl (lv_room (Nat.le_of_ble_eq_true rfl)) dRG_restore_56 ⟨by omega, by omega⟩) (fun  u25 H locs hu25 hP hD hS => ?_)
                  obtain ⟨s35, pl⟩ := u25
                  obtain ⟨⟨eq25, hFc25, -⟩, hO⟩ := hu25
                  have hO : okn g T s35 pl := hO
                  have hP : va_P g.1 vcl ([] ++ pl) _ := hP
                  have hD : va_D _ ([] ++ pl) := hD
                  have hFc25 : frm (M_RG_gather_8 pf) s24 s35 := hFc25
                  replace hR := bnd_step hR eq25
                  have hF := frm_tr hF hFc25 (fun k hk => by unfold M_RG_gather_8 at hk; unfold M_RG_restore_8; omega)
                  refine W.widen (k := 0) (n := 0) (by omega) (by omega) ?_
                  refine mi_iinc (k := 0) (x := i24) (d := 1) (y := i24 + 1) (lv' := [(5, .int (nI (i24 + 1))), (4, .int (nI 8)), (3, .int (nI 16)), (2, .int (nI 4)), (0, .ref h0), (1, .ref f)]) hx hb dRG_restore_59 hl rfl (by decide) rfl (by decide) rfl (fun ls hl => ?_)
                  refine lv_goto (tgt := 25) hx hb dRG_restore_62 (by decide) ?_
                  exact ih24 (i24 + 1) s35 pl ls H locs (by omega) hF hR (lv_sub hl [0, 1, 2, 3, 4, 5] rfl) hO hP hD hS
              exact lp24 16 0 s23 pl ls _ _ (by omega) hF hR (lv_sub hl [0, 1, 2, 3, 4, 5] rfl) hO hP hD hS
            | succ n23 ih23 =>
              intro i23 s23 pl ls H locs hm23 hF hR hl hO hP hD hS
              refine lv_iload hx hb dRG_restore_25 (lv_at hl 0 rfl) ?_
              refine lv_iload_n hx hb dRG_restore_27 rfl (lv_at hl 2 rfl) ?_
              refine mi_ge (tgt := 65) hx hb dRG_restore_28 (by decide) (by omega) (by omega) (fun h45 => absurd h45 (by omega)) (fun h45 => ?_)
              refine lv_aload_n hx hb dRG_restore_31 rfl (lv_at hl 4 rfl) ?_
              refine lv_aload_n hx hb dRG_restore_32 rfl (lv_at hl 5 rfl) ?_
              refine lv_iconst (v := nI 2) hx hb dRG_restore_33 (by decide) ?_
              refine lv_iload hx hb dRG_restore_34 (lv_at hl 1 rfl) ?_
              refine mi_imul hx hb dRG_restore_36 ?_
              refine mi_as (show nI (2 * 4) = nI 8 from rfl) ?_
              refine lv_iload hx hb dRG_restore_37 (lv_at hl 0 rfl) ?_
              refine mi_imul hx hb dRG_restore_39 ?_
              refine lv_iload hx hb dRG_restore_40 (lv_at hl 1 rfl) ?_
              refine lv_aload_n hx hb dRG_restore_42 rfl (lv_at hl 4 rfl) ?_
              refine nw_get (C := "LatticeKeys$Ring") (TT := T_RG) (N := 4) hx hb hts (wg_ft i_RG) hown hK hO k_h0 (kn := 22) (ci := 4) (fl := [(1, 8380417), (1, 8), (1, 8347681), (3, 23)]) rfl hP rfl 3 (by decide) (hts _ (wg_t kw_94)) (fun _ h9 => h9) (cd := (3, 23)) rfl dRG_restore_43 (fun v29 hv29 => ?_)
              obtain ⟨r26, rfl, kr26⟩ := (show ∃ r : Nat, v29 = .ref r ∧ T r = some 23 from hv29)
              refine lv_iconst (v := nI 2) hx hb dRG_restore_46 (by decide) ?_
              refine lv_iload_n hx hb dRG_restore_47 rfl (lv_at hl 2 rfl) ?_
              refine mi_imul hx hb dRG_restore_48 ?_
              refine mi_as (show nI (2 * 32) = nI 64 from rfl) ?_
              refine lv_iconst (v := nI 1) hx hb dRG_restore_49 (by decide) ?_
              refine mi_isub hx hb dRG_restore_50 (by omega) ?_
              refine mi_as (show nI (64 - 1) = nI 63 from rfl) ?_
              refine lv_iload hx hb dRG_restore_51 (lv_at hl 0 rfl) ?_
              refine mi_isub hx hb dRG_restore_53 (by omega) ?_
              refine nw_ialdT hx hb hK hO kr26 (k := 23) (d := 2) rfl hP (by omega) (by omega) dRG_restore_54 ?_
              refine lv_i2l hx hb dRG_restore_55 rfl ?_
              refine mp_v (cx := []) (wr := []) hP hD hS hA [] [] rfl rfl rfl (by decide) (va_runV (As := [.ref f, .int (nI (8 * i23)), .int (nI 4), .long ((ctI 2 (63 - i23)).toInt64)]) (rest := []) F (N_RG_gather_8 l g _ T s23 pl hO hU h0 f pf (8 * i23) 4 ((ctI 2 (63 - i23)).toInt64) k_h0 k_f n_f (by omega)) (cwV 4 hts (wg_app (wg_c kw_724 (wg_c kw_726 (wg_c ks_16 (wg_c kw_4 wg_n)))) kw_727) rfl rfl rfl (by decide +kernel) ⟨by decide, by decide⟩) (pn_W "LatticeKeys$Ring" (en_ok g) (ci := 4) (kn := 22) (fl := [(1, 8380417), (1, 8), (1, 8347681), (3, 23)]) hK hO k_h0 rfl hP hD hS hA hE [] rfl rfl rfl) rfl rfl hl.1 rfl (lv_room (Nat.le_of_ble_eq_true rfl)) dRG_restore_56 ⟨by omega, by omega⟩) (fun  u26 H locs hu26 hP hD hS => ?_)
              obtain ⟨s36, pl⟩ := u26
              obtain ⟨⟨eq26, hFc26, -⟩, hO⟩ := hu26
              have hO : okn g T s36 pl := hO
              have hP : va_P g.1 vcl ([] ++ pl) _ := hP
              have hD : va_D _ ([] ++ pl) := hD
              have hFc26 : frm (M_RG_gather_8 pf) s23 s36 := hFc26
              replace hR := bnd_step hR eq26
              have hF := frm_tr hF hFc26 (fun k hk => by unfold M_RG_gather_8 at hk; unfold M_RG_restore_8; omega)
              refine W.widen (k := 0) (n := 0) (by omega) (by omega) ?_
              refine mi_iinc (k := 0) (x := i23) (d := 1) (y := i23 + 1) (lv' := [(5, .int (nI (i23 + 1))), (4, .int (nI 4)), (3, .int (nI 32)), (2, .int (nI 5)), (0, .ref h0), (1, .ref f)]) hx hb dRG_restore_59 hl rfl (by decide) rfl (by decide) rfl (fun ls hl => ?_)
              refine lv_goto (tgt := 25) hx hb dRG_restore_62 (by decide) ?_
              exact ih23 (i23 + 1) s36 pl ls H locs (by omega) hF hR (lv_sub hl [0, 1, 2, 3, 4, 5] rfl) hO hP hD hS
          exact lp23 32 0 s22 pl ls _ _ (by omega) hF hR (lv_sub hl [0, 1, 2, 3, 4, 5] rfl) hO hP hD hS
        | succ n22 ih22 =>
          intro i22 s22 pl ls H locs hm22 hF hR hl hO hP hD hS
          refine lv_iload hx hb dRG_restore_25 (lv_at hl 0 rfl) ?_
          refine lv_iload_n hx hb dRG_restore_27 rfl (lv_at hl 2 rfl) ?_
          refine mi_ge (tgt := 65) hx hb dRG_restore_28 (by decide) (by omega) (by omega) (fun h46 => absurd h46 (by omega)) (fun h46 => ?_)
          refine lv_aload_n hx hb dRG_restore_31 rfl (lv_at hl 4 rfl) ?_
          refine lv_aload_n hx hb dRG_restore_32 rfl (lv_at hl 5 rfl) ?_
          refine lv_iconst (v := nI 2) hx hb dRG_restore_33 (by decide) ?_
          refine lv_iload hx hb dRG_restore_34 (lv_at hl 1 rfl) ?_
          refine mi_imul hx hb dRG_restore_36 ?_
          refine mi_as (show nI (2 * 2) = nI 4 from rfl) ?_
          refine lv_iload hx hb dRG_restore_37 (lv_at hl 0 rfl) ?_
          refine mi_imul hx hb dRG_restore_39 ?_
          refine lv_iload hx hb dRG_restore_40 (lv_at hl 1 rfl) ?_
          refine lv_aload_n hx hb dRG_restore_42 rfl (lv_at hl 4 rfl) ?_
          refine nw_get (C := "LatticeKeys$Ring") (TT := T_RG) (N := 4) hx hb hts (wg_ft i_RG) hown hK hO k_h0 (kn := 22) (ci := 4) (fl := [(1, 8380417), (1, 8), (1, 8347681), (3, 23)]) rfl hP rfl 3 (by decide) (hts _ (wg_t kw_94)) (fun _ h9 => h9) (cd := (3, 23)) rfl dRG_restore_43 (fun v30 hv30 => ?_)
          obtain ⟨r27, rfl, kr27⟩ := (show ∃ r : Nat, v30 = .ref r ∧ T r = some 23 from hv30)
          refine lv_iconst (v := nI 2) hx hb dRG_restore_46 (by decide) ?_
          refine lv_iload_n hx hb dRG_restore_47 rfl (lv_at hl 2 rfl) ?_
          refine mi_imul hx hb dRG_restore_48 ?_
          refine mi_as (show nI (2 * 64) = nI 128 from rfl) ?_
          refine lv_iconst (v := nI 1) hx hb dRG_restore_49 (by decide) ?_
          refine mi_isub hx hb dRG_restore_50 (by omega) ?_
          refine mi_as (show nI (128 - 1) = nI 127 from rfl) ?_
          refine lv_iload hx hb dRG_restore_51 (lv_at hl 0 rfl) ?_
          refine mi_isub hx hb dRG_restore_53 (by omega) ?_
          refine nw_ialdT hx hb hK hO kr27 (k := 23) (d := 2) rfl hP (by omega) (by omega) dRG_restore_54 ?_
          refine lv_i2l hx hb dRG_restore_55 rfl ?_
          refine mp_v (cx := []) (wr := []) hP hD hS hA [] [] rfl rfl rfl (by decide) (va_runV (As := [.ref f, .int (nI (4 * i22)), .int (nI 2), .long ((ctI 2 (127 - i22)).toInt64)]) (rest := []) F (N_RG_gather_8 l g _ T s22 pl hO hU h0 f pf (4 * i22) 2 ((ctI 2 (127 - i22)).toInt64) k_h0 k_f n_f (by omega)) (cwV 4 hts (wg_app (wg_c kw_724 (wg_c kw_726 (wg_c ks_16 (wg_c kw_4 wg_n)))) kw_727) rfl rfl rfl (by decide +kernel) ⟨by decide, by decide⟩) (pn_W "LatticeKeys$Ring" (en_ok g) (ci := 4) (kn := 22) (fl := [(1, 8380417), (1, 8), (1, 8347681), (3, 23)]) hK hO k_h0 rfl hP hD hS hA hE [] rfl rfl rfl) rfl rfl hl.1 rfl (lv_room (Nat.le_of_ble_eq_true rfl)) dRG_restore_56 ⟨by omega, by omega⟩) (fun  u27 H locs hu27 hP hD hS => ?_)
          obtain ⟨s37, pl⟩ := u27
          obtain ⟨⟨eq27, hFc27, -⟩, hO⟩ := hu27
          have hO : okn g T s37 pl := hO
          have hP : va_P g.1 vcl ([] ++ pl) _ := hP
          have hD : va_D _ ([] ++ pl) := hD
          have hFc27 : frm (M_RG_gather_8 pf) s22 s37 := hFc27
          replace hR := bnd_step hR eq27
          have hF := frm_tr hF hFc27 (fun k hk => by unfold M_RG_gather_8 at hk; unfold M_RG_restore_8; omega)
          refine W.widen (k := 0) (n := 0) (by omega) (by omega) ?_
          refine mi_iinc (k := 0) (x := i22) (d := 1) (y := i22 + 1) (lv' := [(5, .int (nI (i22 + 1))), (4, .int (nI 2)), (3, .int (nI 64)), (2, .int (nI 6)), (0, .ref h0), (1, .ref f)]) hx hb dRG_restore_59 hl rfl (by decide) rfl (by decide) rfl (fun ls hl => ?_)
          refine lv_goto (tgt := 25) hx hb dRG_restore_62 (by decide) ?_
          exact ih22 (i22 + 1) s37 pl ls H locs (by omega) hF hR (lv_sub hl [0, 1, 2, 3, 4, 5] rfl) hO hP hD hS
      exact lp22 64 0 s21 pl ls _ _ (by omega) hF hR (lv_sub hl [0, 1, 2, 3, 4, 5] rfl) hO hP hD hS
    | succ n21 ih21 =>
      intro i21 s21 pl ls H locs hm21 hF hR hl hO hP hD hS
      refine lv_iload hx hb dRG_restore_25 (lv_at hl 0 rfl) ?_
      refine lv_iload_n hx hb dRG_restore_27 rfl (lv_at hl 2 rfl) ?_
      refine mi_ge (tgt := 65) hx hb dRG_restore_28 (by decide) (by omega) (by omega) (fun h47 => absurd h47 (by omega)) (fun h47 => ?_)
      refine lv_aload_n hx hb dRG_restore_31 rfl (lv_at hl 4 rfl) ?_
      refine lv_aload_n hx hb dRG_restore_32 rfl (lv_at hl 5 rfl) ?_
      refine lv_iconst (v := nI 2) hx hb dRG_restore_33 (by decide) ?_
      refine lv_iload hx hb dRG_restore_34 (lv_at hl 1 rfl) ?_
      refine mi_imul hx hb dRG_restore_36 ?_
      refine mi_as (show nI (2 * 1) = nI 2 from rfl) ?_
      refine lv_iload hx hb dRG_restore_37 (lv_at hl 0 rfl) ?_
      refine mi_imul hx hb dRG_restore_39 ?_
      refine lv_iload hx hb dRG_restore_40 (lv_at hl 1 rfl) ?_
      refine lv_aload_n hx hb dRG_restore_42 rfl (lv_at hl 4 rfl) ?_
      refine nw_get (C := "LatticeKeys$Ring") (TT := T_RG) (N := 4) hx hb hts (wg_ft i_RG) hown hK hO k_h0 (kn := 22) (ci := 4) (fl := [(1, 8380417), (1, 8), (1, 8347681), (3, 23)]) rfl hP rfl 3 (by decide) (hts _ (wg_t kw_94)) (fun _ h9 => h9) (cd := (3, 23)) rfl dRG_restore_43 (fun v31 hv31 => ?_)
      obtain ⟨r28, rfl, kr28⟩ := (show ∃ r : Nat, v31 = .ref r ∧ T r = some 23 from hv31)
      refine lv_iconst (v := nI 2) hx hb dRG_restore_46 (by decide) ?_
      refine lv_iload_n hx hb dRG_restore_47 rfl (lv_at hl 2 rfl) ?_
      refine mi_imul hx hb dRG_restore_48 ?_
      refine mi_as (show nI (2 * 128) = nI 256 from rfl) ?_
      refine lv_iconst (v := nI 1) hx hb dRG_restore_49 (by decide) ?_
      refine mi_isub hx hb dRG_restore_50 (by omega) ?_
      refine mi_as (show nI (256 - 1) = nI 255 from rfl) ?_
      refine lv_iload hx hb dRG_restore_51 (lv_at hl 0 rfl) ?_
      refine mi_isub hx hb dRG_restore_53 (by omega) ?_
      refine nw_ialdT hx hb hK hO kr28 (k := 23) (d := 2) rfl hP (by omega) (by omega) dRG_restore_54 ?_
      refine lv_i2l hx hb dRG_restore_55 rfl ?_
      refine mp_v (cx := []) (wr := []) hP hD hS hA [] [] rfl rfl rfl (by decide) (va_runV (As := [.ref f, .int (nI (2 * i21)), .int (nI 1), .long ((ctI 2 (255 - i21)).toInt64)]) (rest := []) F (N_RG_gather_8 l g _ T s21 pl hO hU h0 f pf (2 * i21) 1 ((ctI 2 (255 - i21)).toInt64) k_h0 k_f n_f (by omega)) (cwV 4 hts (wg_app (wg_c kw_724 (wg_c kw_726 (wg_c ks_16 (wg_c kw_4 wg_n)))) kw_727) rfl rfl rfl (by decide +kernel) ⟨by decide, by decide⟩) (pn_W "LatticeKeys$Ring" (en_ok g) (ci := 4) (kn := 22) (fl := [(1, 8380417), (1, 8), (1, 8347681), (3, 23)]) hK hO k_h0 rfl hP hD hS hA hE [] rfl rfl rfl) rfl rfl hl.1 rfl (lv_room (Nat.le_of_ble_eq_true rfl)) dRG_restore_56 ⟨by omega, by omega⟩) (fun  u28 H locs hu28 hP hD hS => ?_)
      obtain ⟨s38, pl⟩ := u28
      obtain ⟨⟨eq28, hFc28, -⟩, hO⟩ := hu28
      have hO : okn g T s38 pl := hO
      have hP : va_P g.1 vcl ([] ++ pl) _ := hP
      have hD : va_D _ ([] ++ pl) := hD
      have hFc28 : frm (M_RG_gather_8 pf) s21 s38 := hFc28
      replace hR := bnd_step hR eq28
      have hF := frm_tr hF hFc28 (fun k hk => by unfold M_RG_gather_8 at hk; unfold M_RG_restore_8; omega)
      refine W.widen (k := 0) (n := 0) (by omega) (by omega) ?_
      refine mi_iinc (k := 0) (x := i21) (d := 1) (y := i21 + 1) (lv' := [(5, .int (nI (i21 + 1))), (4, .int (nI 1)), (3, .int (nI 128)), (2, .int (nI 7)), (0, .ref h0), (1, .ref f)]) hx hb dRG_restore_59 hl rfl (by decide) rfl (by decide) rfl (fun ls hl => ?_)
      refine lv_goto (tgt := 25) hx hb dRG_restore_62 (by decide) ?_
      exact ih21 (i21 + 1) s38 pl ls H locs (by omega) hF hR (lv_sub hl [0, 1, 2, 3, 4, 5] rfl) hO hP hD hS
  exact lp21 128 0 s pl ls _ _ (by omega) hF hR (lv_sub hl [0, 1, 2, 3, 4, 5] rfl) hO hP hD hS
