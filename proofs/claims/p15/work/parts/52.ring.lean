abbrev c_RG_spread : ByteArray := prog_9_method_4_code
abbrev y_RG_spread : MethodName := ⟨"LatticeKeys$Ring", "spread", "([IIIJ)V"⟩
abbrev w_RG_spread : List Cond := Cond.code y_RG_spread c_RG_spread 10 none :: WG
theorem dRG_spread_0 : decode c_RG_spread 0 = .ok (.iload_n 2, 1) := by decide +kernel
theorem dRG_spread_1 : decode c_RG_spread 1 = .ok (.istore 6, 2) := by decide +kernel
theorem dRG_spread_3 : decode c_RG_spread 3 = .ok (.iload 6, 2) := by decide +kernel
theorem dRG_spread_5 : decode c_RG_spread 5 = .ok (.iload_n 2, 1) := by decide +kernel
theorem dRG_spread_6 : decode c_RG_spread 6 = .ok (.iload_n 3, 1) := by decide +kernel
theorem dRG_spread_7 : decode c_RG_spread 7 = .ok (.iadd, 1) := by decide +kernel
theorem dRG_spread_8 : decode c_RG_spread 8 = .ok (.if_icmp .ge 94, 3) := by decide +kernel
theorem dRG_spread_11 : decode c_RG_spread 11 = .ok (.lload 4, 2) := by decide +kernel
theorem dRG_spread_13 : decode c_RG_spread 13 = .ok (.aload_n 1, 1) := by decide +kernel
theorem dRG_spread_14 : decode c_RG_spread 14 = .ok (.iload 6, 2) := by decide +kernel
theorem dRG_spread_16 : decode c_RG_spread 16 = .ok (.iload_n 3, 1) := by decide +kernel
theorem dRG_spread_17 : decode c_RG_spread 17 = .ok (.iadd, 1) := by decide +kernel
theorem dRG_spread_18 : decode c_RG_spread 18 = .ok (.iaload, 1) := by decide +kernel
theorem dRG_spread_19 : decode c_RG_spread 19 = .ok (.i2l, 1) := by decide +kernel
theorem dRG_spread_20 : decode c_RG_spread 20 = .ok (.lmul, 1) := by decide +kernel
theorem dRG_spread_21 : decode c_RG_spread 21 = .ok (.aload_n 0, 1) := by decide +kernel
theorem dRG_spread_22 : decode c_RG_spread 22 = .ok (.getfield 7, 3) := by decide +kernel
theorem dRG_spread_25 : decode c_RG_spread 25 = .ok (.i2l, 1) := by decide +kernel
theorem dRG_spread_26 : decode c_RG_spread 26 = .ok (.lrem, 1) := by decide +kernel
theorem dRG_spread_27 : decode c_RG_spread 27 = .ok (.l2i, 1) := by decide +kernel
theorem dRG_spread_28 : decode c_RG_spread 28 = .ok (.istore 7, 2) := by decide +kernel
theorem dRG_spread_30 : decode c_RG_spread 30 = .ok (.aload_n 1, 1) := by decide +kernel
theorem dRG_spread_31 : decode c_RG_spread 31 = .ok (.iload 6, 2) := by decide +kernel
theorem dRG_spread_33 : decode c_RG_spread 33 = .ok (.iaload, 1) := by decide +kernel
theorem dRG_spread_34 : decode c_RG_spread 34 = .ok (.iload 7, 2) := by decide +kernel
theorem dRG_spread_36 : decode c_RG_spread 36 = .ok (.iadd, 1) := by decide +kernel
theorem dRG_spread_37 : decode c_RG_spread 37 = .ok (.istore 8, 2) := by decide +kernel
theorem dRG_spread_39 : decode c_RG_spread 39 = .ok (.aload_n 1, 1) := by decide +kernel
theorem dRG_spread_40 : decode c_RG_spread 40 = .ok (.iload 6, 2) := by decide +kernel
theorem dRG_spread_42 : decode c_RG_spread 42 = .ok (.iaload, 1) := by decide +kernel
theorem dRG_spread_43 : decode c_RG_spread 43 = .ok (.iload 7, 2) := by decide +kernel
theorem dRG_spread_45 : decode c_RG_spread 45 = .ok (.isub, 1) := by decide +kernel
theorem dRG_spread_46 : decode c_RG_spread 46 = .ok (.istore 9, 2) := by decide +kernel
theorem dRG_spread_48 : decode c_RG_spread 48 = .ok (.aload_n 1, 1) := by decide +kernel
theorem dRG_spread_49 : decode c_RG_spread 49 = .ok (.iload 6, 2) := by decide +kernel
theorem dRG_spread_51 : decode c_RG_spread 51 = .ok (.iload 8, 2) := by decide +kernel
theorem dRG_spread_53 : decode c_RG_spread 53 = .ok (.aload_n 0, 1) := by decide +kernel
theorem dRG_spread_54 : decode c_RG_spread 54 = .ok (.getfield 7, 3) := by decide +kernel
theorem dRG_spread_57 : decode c_RG_spread 57 = .ok (.if_icmp .lt 13, 3) := by decide +kernel
theorem dRG_spread_60 : decode c_RG_spread 60 = .ok (.iload 8, 2) := by decide +kernel
theorem dRG_spread_62 : decode c_RG_spread 62 = .ok (.aload_n 0, 1) := by decide +kernel
theorem dRG_spread_63 : decode c_RG_spread 63 = .ok (.getfield 7, 3) := by decide +kernel
theorem dRG_spread_66 : decode c_RG_spread 66 = .ok (.isub, 1) := by decide +kernel
theorem dRG_spread_67 : decode c_RG_spread 67 = .ok (.goto 5, 3) := by decide +kernel
theorem dRG_spread_70 : decode c_RG_spread 70 = .ok (.iload 8, 2) := by decide +kernel
theorem dRG_spread_72 : decode c_RG_spread 72 = .ok (.iastore, 1) := by decide +kernel
theorem dRG_spread_73 : decode c_RG_spread 73 = .ok (.aload_n 1, 1) := by decide +kernel
theorem dRG_spread_74 : decode c_RG_spread 74 = .ok (.iload 6, 2) := by decide +kernel
theorem dRG_spread_76 : decode c_RG_spread 76 = .ok (.iload_n 3, 1) := by decide +kernel
theorem dRG_spread_77 : decode c_RG_spread 77 = .ok (.iadd, 1) := by decide +kernel
theorem dRG_spread_78 : decode c_RG_spread 78 = .ok (.iload 9, 2) := by decide +kernel
theorem dRG_spread_80 : decode c_RG_spread 80 = .ok (.ifCond .ge 13, 3) := by decide +kernel
theorem dRG_spread_83 : decode c_RG_spread 83 = .ok (.iload 9, 2) := by decide +kernel
theorem dRG_spread_85 : decode c_RG_spread 85 = .ok (.aload_n 0, 1) := by decide +kernel
theorem dRG_spread_86 : decode c_RG_spread 86 = .ok (.getfield 7, 3) := by decide +kernel
theorem dRG_spread_89 : decode c_RG_spread 89 = .ok (.iadd, 1) := by decide +kernel
theorem dRG_spread_90 : decode c_RG_spread 90 = .ok (.goto 5, 3) := by decide +kernel
theorem dRG_spread_93 : decode c_RG_spread 93 = .ok (.iload 9, 2) := by decide +kernel
theorem dRG_spread_95 : decode c_RG_spread 95 = .ok (.iastore, 1) := by decide +kernel
theorem dRG_spread_96 : decode c_RG_spread 96 = .ok (.iinc 6 1, 3) := by decide +kernel
theorem dRG_spread_99 : decode c_RG_spread 99 = .ok (.goto (-96), 3) := by decide +kernel
theorem dRG_spread_102 : decode c_RG_spread 102 = .ok (.return_, 1) := by decide +kernel
abbrev c_RG_gather : ByteArray := prog_9_method_6_code
abbrev y_RG_gather : MethodName := ⟨"LatticeKeys$Ring", "gather", "([IIIJ)V"⟩
abbrev w_RG_gather : List Cond := Cond.code y_RG_gather c_RG_gather 9 none :: WG
theorem dRG_gather_0 : decode c_RG_gather 0 = .ok (.iload_n 2, 1) := by decide +kernel
theorem dRG_gather_1 : decode c_RG_gather 1 = .ok (.istore 6, 2) := by decide +kernel
theorem dRG_gather_3 : decode c_RG_gather 3 = .ok (.iload 6, 2) := by decide +kernel
theorem dRG_gather_5 : decode c_RG_gather 5 = .ok (.iload_n 2, 1) := by decide +kernel
theorem dRG_gather_6 : decode c_RG_gather 6 = .ok (.iload_n 3, 1) := by decide +kernel
theorem dRG_gather_7 : decode c_RG_gather 7 = .ok (.iadd, 1) := by decide +kernel
theorem dRG_gather_8 : decode c_RG_gather 8 = .ok (.if_icmp .ge 84, 3) := by decide +kernel
theorem dRG_gather_11 : decode c_RG_gather 11 = .ok (.aload_n 1, 1) := by decide +kernel
theorem dRG_gather_12 : decode c_RG_gather 12 = .ok (.iload 6, 2) := by decide +kernel
theorem dRG_gather_14 : decode c_RG_gather 14 = .ok (.iaload, 1) := by decide +kernel
theorem dRG_gather_15 : decode c_RG_gather 15 = .ok (.aload_n 1, 1) := by decide +kernel
theorem dRG_gather_16 : decode c_RG_gather 16 = .ok (.iload 6, 2) := by decide +kernel
theorem dRG_gather_18 : decode c_RG_gather 18 = .ok (.iload_n 3, 1) := by decide +kernel
theorem dRG_gather_19 : decode c_RG_gather 19 = .ok (.iadd, 1) := by decide +kernel
theorem dRG_gather_20 : decode c_RG_gather 20 = .ok (.iaload, 1) := by decide +kernel
theorem dRG_gather_21 : decode c_RG_gather 21 = .ok (.iadd, 1) := by decide +kernel
theorem dRG_gather_22 : decode c_RG_gather 22 = .ok (.istore 7, 2) := by decide +kernel
theorem dRG_gather_24 : decode c_RG_gather 24 = .ok (.aload_n 1, 1) := by decide +kernel
theorem dRG_gather_25 : decode c_RG_gather 25 = .ok (.iload 6, 2) := by decide +kernel
theorem dRG_gather_27 : decode c_RG_gather 27 = .ok (.iload_n 3, 1) := by decide +kernel
theorem dRG_gather_28 : decode c_RG_gather 28 = .ok (.iadd, 1) := by decide +kernel
theorem dRG_gather_29 : decode c_RG_gather 29 = .ok (.iaload, 1) := by decide +kernel
theorem dRG_gather_30 : decode c_RG_gather 30 = .ok (.aload_n 1, 1) := by decide +kernel
theorem dRG_gather_31 : decode c_RG_gather 31 = .ok (.iload 6, 2) := by decide +kernel
theorem dRG_gather_33 : decode c_RG_gather 33 = .ok (.iaload, 1) := by decide +kernel
theorem dRG_gather_34 : decode c_RG_gather 34 = .ok (.isub, 1) := by decide +kernel
theorem dRG_gather_35 : decode c_RG_gather 35 = .ok (.aload_n 0, 1) := by decide +kernel
theorem dRG_gather_36 : decode c_RG_gather 36 = .ok (.getfield 7, 3) := by decide +kernel
theorem dRG_gather_39 : decode c_RG_gather 39 = .ok (.iadd, 1) := by decide +kernel
theorem dRG_gather_40 : decode c_RG_gather 40 = .ok (.istore 8, 2) := by decide +kernel
theorem dRG_gather_42 : decode c_RG_gather 42 = .ok (.aload_n 1, 1) := by decide +kernel
theorem dRG_gather_43 : decode c_RG_gather 43 = .ok (.iload 6, 2) := by decide +kernel
theorem dRG_gather_45 : decode c_RG_gather 45 = .ok (.iload 7, 2) := by decide +kernel
theorem dRG_gather_47 : decode c_RG_gather 47 = .ok (.aload_n 0, 1) := by decide +kernel
theorem dRG_gather_48 : decode c_RG_gather 48 = .ok (.getfield 7, 3) := by decide +kernel
theorem dRG_gather_51 : decode c_RG_gather 51 = .ok (.if_icmp .lt 13, 3) := by decide +kernel
theorem dRG_gather_54 : decode c_RG_gather 54 = .ok (.iload 7, 2) := by decide +kernel
theorem dRG_gather_56 : decode c_RG_gather 56 = .ok (.aload_n 0, 1) := by decide +kernel
theorem dRG_gather_57 : decode c_RG_gather 57 = .ok (.getfield 7, 3) := by decide +kernel
theorem dRG_gather_60 : decode c_RG_gather 60 = .ok (.isub, 1) := by decide +kernel
theorem dRG_gather_61 : decode c_RG_gather 61 = .ok (.goto 5, 3) := by decide +kernel
theorem dRG_gather_64 : decode c_RG_gather 64 = .ok (.iload 7, 2) := by decide +kernel
theorem dRG_gather_66 : decode c_RG_gather 66 = .ok (.iastore, 1) := by decide +kernel
theorem dRG_gather_67 : decode c_RG_gather 67 = .ok (.aload_n 1, 1) := by decide +kernel
theorem dRG_gather_68 : decode c_RG_gather 68 = .ok (.iload 6, 2) := by decide +kernel
theorem dRG_gather_70 : decode c_RG_gather 70 = .ok (.iload_n 3, 1) := by decide +kernel
theorem dRG_gather_71 : decode c_RG_gather 71 = .ok (.iadd, 1) := by decide +kernel
theorem dRG_gather_72 : decode c_RG_gather 72 = .ok (.lload 4, 2) := by decide +kernel
theorem dRG_gather_74 : decode c_RG_gather 74 = .ok (.iload 8, 2) := by decide +kernel
theorem dRG_gather_76 : decode c_RG_gather 76 = .ok (.i2l, 1) := by decide +kernel
theorem dRG_gather_77 : decode c_RG_gather 77 = .ok (.lmul, 1) := by decide +kernel
theorem dRG_gather_78 : decode c_RG_gather 78 = .ok (.aload_n 0, 1) := by decide +kernel
theorem dRG_gather_79 : decode c_RG_gather 79 = .ok (.getfield 7, 3) := by decide +kernel
theorem dRG_gather_82 : decode c_RG_gather 82 = .ok (.i2l, 1) := by decide +kernel
theorem dRG_gather_83 : decode c_RG_gather 83 = .ok (.lrem, 1) := by decide +kernel
theorem dRG_gather_84 : decode c_RG_gather 84 = .ok (.l2i, 1) := by decide +kernel
theorem dRG_gather_85 : decode c_RG_gather 85 = .ok (.iastore, 1) := by decide +kernel
theorem dRG_gather_86 : decode c_RG_gather 86 = .ok (.iinc 6 1, 3) := by decide +kernel
theorem dRG_gather_89 : decode c_RG_gather 89 = .ok (.goto (-86), 3) := by decide +kernel
theorem dRG_gather_92 : decode c_RG_gather 92 = .ok (.return_, 1) := by decide +kernel
abbrev c_RG_transform : ByteArray := prog_9_method_3_code
abbrev y_RG_transform : MethodName := ⟨"LatticeKeys$Ring", "transform", "([I)V"⟩
abbrev w_RG_transform : List Cond := Cond.code y_RG_transform c_RG_transform 6 none :: WG
theorem dRG_transform_0 : decode c_RG_transform 0 = .ok (.iconst 0, 1) := by decide +kernel
theorem dRG_transform_1 : decode c_RG_transform 1 = .ok (.istore_n 2, 1) := by decide +kernel
theorem dRG_transform_2 : decode c_RG_transform 2 = .ok (.iload_n 2, 1) := by decide +kernel
theorem dRG_transform_3 : decode c_RG_transform 3 = .ok (.aload_n 0, 1) := by decide +kernel
theorem dRG_transform_4 : decode c_RG_transform 4 = .ok (.getfield 13, 3) := by decide +kernel
theorem dRG_transform_7 : decode c_RG_transform 7 = .ok (.if_icmp .ge 59, 3) := by decide +kernel
theorem dRG_transform_10 : decode c_RG_transform 10 = .ok (.iconst 1, 1) := by decide +kernel
theorem dRG_transform_11 : decode c_RG_transform 11 = .ok (.iload_n 2, 1) := by decide +kernel
theorem dRG_transform_12 : decode c_RG_transform 12 = .ok (.ishl, 1) := by decide +kernel
theorem dRG_transform_13 : decode c_RG_transform 13 = .ok (.istore_n 3, 1) := by decide +kernel
theorem dRG_transform_14 : decode c_RG_transform 14 = .ok (.sipush 128, 3) := by decide +kernel
theorem dRG_transform_17 : decode c_RG_transform 17 = .ok (.iload_n 2, 1) := by decide +kernel
theorem dRG_transform_18 : decode c_RG_transform 18 = .ok (.ishr, 1) := by decide +kernel
theorem dRG_transform_19 : decode c_RG_transform 19 = .ok (.istore 4, 2) := by decide +kernel
theorem dRG_transform_21 : decode c_RG_transform 21 = .ok (.iconst 0, 1) := by decide +kernel
theorem dRG_transform_22 : decode c_RG_transform 22 = .ok (.istore 5, 2) := by decide +kernel
theorem dRG_transform_24 : decode c_RG_transform 24 = .ok (.iload 5, 2) := by decide +kernel
theorem dRG_transform_26 : decode c_RG_transform 26 = .ok (.iload_n 3, 1) := by decide +kernel
theorem dRG_transform_27 : decode c_RG_transform 27 = .ok (.if_icmp .ge 33, 3) := by decide +kernel
theorem dRG_transform_30 : decode c_RG_transform 30 = .ok (.aload_n 0, 1) := by decide +kernel
theorem dRG_transform_31 : decode c_RG_transform 31 = .ok (.aload_n 1, 1) := by decide +kernel
theorem dRG_transform_32 : decode c_RG_transform 32 = .ok (.iconst 2, 1) := by decide +kernel
theorem dRG_transform_33 : decode c_RG_transform 33 = .ok (.iload 4, 2) := by decide +kernel
theorem dRG_transform_35 : decode c_RG_transform 35 = .ok (.imul, 1) := by decide +kernel
theorem dRG_transform_36 : decode c_RG_transform 36 = .ok (.iload 5, 2) := by decide +kernel
theorem dRG_transform_38 : decode c_RG_transform 38 = .ok (.imul, 1) := by decide +kernel
theorem dRG_transform_39 : decode c_RG_transform 39 = .ok (.iload 4, 2) := by decide +kernel
theorem dRG_transform_41 : decode c_RG_transform 41 = .ok (.aload_n 0, 1) := by decide +kernel
theorem dRG_transform_42 : decode c_RG_transform 42 = .ok (.getfield 19, 3) := by decide +kernel
theorem dRG_transform_45 : decode c_RG_transform 45 = .ok (.iload_n 3, 1) := by decide +kernel
theorem dRG_transform_46 : decode c_RG_transform 46 = .ok (.iload 5, 2) := by decide +kernel
theorem dRG_transform_48 : decode c_RG_transform 48 = .ok (.iadd, 1) := by decide +kernel
theorem dRG_transform_49 : decode c_RG_transform 49 = .ok (.iaload, 1) := by decide +kernel
theorem dRG_transform_50 : decode c_RG_transform 50 = .ok (.i2l, 1) := by decide +kernel
theorem dRG_transform_51 : decode c_RG_transform 51 = .ok (.invokevirtual 27, 3) := by decide +kernel
theorem dRG_transform_54 : decode c_RG_transform 54 = .ok (.iinc 5 1, 3) := by decide +kernel
theorem dRG_transform_57 : decode c_RG_transform 57 = .ok (.goto (-33), 3) := by decide +kernel
theorem dRG_transform_60 : decode c_RG_transform 60 = .ok (.iinc 2 1, 3) := by decide +kernel
theorem dRG_transform_63 : decode c_RG_transform 63 = .ok (.goto (-61), 3) := by decide +kernel
theorem dRG_transform_66 : decode c_RG_transform 66 = .ok (.return_, 1) := by decide +kernel
abbrev c_RG_restore : ByteArray := prog_9_method_5_code
abbrev y_RG_restore : MethodName := ⟨"LatticeKeys$Ring", "restore", "([I)V"⟩
abbrev w_RG_restore : List Cond := Cond.code y_RG_restore c_RG_restore 6 none :: WG
theorem dRG_restore_0 : decode c_RG_restore 0 = .ok (.aload_n 0, 1) := by decide +kernel
theorem dRG_restore_1 : decode c_RG_restore 1 = .ok (.getfield 13, 3) := by decide +kernel
theorem dRG_restore_4 : decode c_RG_restore 4 = .ok (.iconst 1, 1) := by decide +kernel
theorem dRG_restore_5 : decode c_RG_restore 5 = .ok (.isub, 1) := by decide +kernel
theorem dRG_restore_6 : decode c_RG_restore 6 = .ok (.istore_n 2, 1) := by decide +kernel
theorem dRG_restore_7 : decode c_RG_restore 7 = .ok (.iload_n 2, 1) := by decide +kernel
theorem dRG_restore_8 : decode c_RG_restore 8 = .ok (.ifCond .lt 63, 3) := by decide +kernel
theorem dRG_restore_11 : decode c_RG_restore 11 = .ok (.iconst 1, 1) := by decide +kernel
theorem dRG_restore_12 : decode c_RG_restore 12 = .ok (.iload_n 2, 1) := by decide +kernel
theorem dRG_restore_13 : decode c_RG_restore 13 = .ok (.ishl, 1) := by decide +kernel
theorem dRG_restore_14 : decode c_RG_restore 14 = .ok (.istore_n 3, 1) := by decide +kernel
theorem dRG_restore_15 : decode c_RG_restore 15 = .ok (.sipush 128, 3) := by decide +kernel
theorem dRG_restore_18 : decode c_RG_restore 18 = .ok (.iload_n 2, 1) := by decide +kernel
theorem dRG_restore_19 : decode c_RG_restore 19 = .ok (.ishr, 1) := by decide +kernel
theorem dRG_restore_20 : decode c_RG_restore 20 = .ok (.istore 4, 2) := by decide +kernel
theorem dRG_restore_22 : decode c_RG_restore 22 = .ok (.iconst 0, 1) := by decide +kernel
theorem dRG_restore_23 : decode c_RG_restore 23 = .ok (.istore 5, 2) := by decide +kernel
theorem dRG_restore_25 : decode c_RG_restore 25 = .ok (.iload 5, 2) := by decide +kernel
theorem dRG_restore_27 : decode c_RG_restore 27 = .ok (.iload_n 3, 1) := by decide +kernel
theorem dRG_restore_28 : decode c_RG_restore 28 = .ok (.if_icmp .ge 37, 3) := by decide +kernel
theorem dRG_restore_31 : decode c_RG_restore 31 = .ok (.aload_n 0, 1) := by decide +kernel
theorem dRG_restore_32 : decode c_RG_restore 32 = .ok (.aload_n 1, 1) := by decide +kernel
theorem dRG_restore_33 : decode c_RG_restore 33 = .ok (.iconst 2, 1) := by decide +kernel
theorem dRG_restore_34 : decode c_RG_restore 34 = .ok (.iload 4, 2) := by decide +kernel
theorem dRG_restore_36 : decode c_RG_restore 36 = .ok (.imul, 1) := by decide +kernel
theorem dRG_restore_37 : decode c_RG_restore 37 = .ok (.iload 5, 2) := by decide +kernel
theorem dRG_restore_39 : decode c_RG_restore 39 = .ok (.imul, 1) := by decide +kernel
theorem dRG_restore_40 : decode c_RG_restore 40 = .ok (.iload 4, 2) := by decide +kernel
theorem dRG_restore_42 : decode c_RG_restore 42 = .ok (.aload_n 0, 1) := by decide +kernel
theorem dRG_restore_43 : decode c_RG_restore 43 = .ok (.getfield 19, 3) := by decide +kernel
theorem dRG_restore_46 : decode c_RG_restore 46 = .ok (.iconst 2, 1) := by decide +kernel
theorem dRG_restore_47 : decode c_RG_restore 47 = .ok (.iload_n 3, 1) := by decide +kernel
theorem dRG_restore_48 : decode c_RG_restore 48 = .ok (.imul, 1) := by decide +kernel
theorem dRG_restore_49 : decode c_RG_restore 49 = .ok (.iconst 1, 1) := by decide +kernel
theorem dRG_restore_50 : decode c_RG_restore 50 = .ok (.isub, 1) := by decide +kernel
theorem dRG_restore_51 : decode c_RG_restore 51 = .ok (.iload 5, 2) := by decide +kernel
theorem dRG_restore_53 : decode c_RG_restore 53 = .ok (.isub, 1) := by decide +kernel
theorem dRG_restore_54 : decode c_RG_restore 54 = .ok (.iaload, 1) := by decide +kernel
theorem dRG_restore_55 : decode c_RG_restore 55 = .ok (.i2l, 1) := by decide +kernel
theorem dRG_restore_56 : decode c_RG_restore 56 = .ok (.invokevirtual 31, 3) := by decide +kernel
theorem dRG_restore_59 : decode c_RG_restore 59 = .ok (.iinc 5 1, 3) := by decide +kernel
theorem dRG_restore_62 : decode c_RG_restore 62 = .ok (.goto (-37), 3) := by decide +kernel
theorem dRG_restore_65 : decode c_RG_restore 65 = .ok (.iinc 2 (-1), 3) := by decide +kernel
theorem dRG_restore_68 : decode c_RG_restore 68 = .ok (.goto (-61), 3) := by decide +kernel
theorem dRG_restore_71 : decode c_RG_restore 71 = .ok (.iconst 0, 1) := by decide +kernel
theorem dRG_restore_72 : decode c_RG_restore 72 = .ok (.istore_n 2, 1) := by decide +kernel
theorem dRG_restore_73 : decode c_RG_restore 73 = .ok (.iload_n 2, 1) := by decide +kernel
theorem dRG_restore_74 : decode c_RG_restore 74 = .ok (.sipush 256, 3) := by decide +kernel
theorem dRG_restore_77 : decode c_RG_restore 77 = .ok (.if_icmp .ge 29, 3) := by decide +kernel
theorem dRG_restore_80 : decode c_RG_restore 80 = .ok (.aload_n 1, 1) := by decide +kernel
theorem dRG_restore_81 : decode c_RG_restore 81 = .ok (.iload_n 2, 1) := by decide +kernel
theorem dRG_restore_82 : decode c_RG_restore 82 = .ok (.aload_n 1, 1) := by decide +kernel
theorem dRG_restore_83 : decode c_RG_restore 83 = .ok (.iload_n 2, 1) := by decide +kernel
theorem dRG_restore_84 : decode c_RG_restore 84 = .ok (.iaload, 1) := by decide +kernel
theorem dRG_restore_85 : decode c_RG_restore 85 = .ok (.i2l, 1) := by decide +kernel
theorem dRG_restore_86 : decode c_RG_restore 86 = .ok (.aload_n 0, 1) := by decide +kernel
theorem dRG_restore_87 : decode c_RG_restore 87 = .ok (.getfield 16, 3) := by decide +kernel
theorem dRG_restore_90 : decode c_RG_restore 90 = .ok (.i2l, 1) := by decide +kernel
theorem dRG_restore_91 : decode c_RG_restore 91 = .ok (.lmul, 1) := by decide +kernel
theorem dRG_restore_92 : decode c_RG_restore 92 = .ok (.aload_n 0, 1) := by decide +kernel
theorem dRG_restore_93 : decode c_RG_restore 93 = .ok (.getfield 7, 3) := by decide +kernel
theorem dRG_restore_96 : decode c_RG_restore 96 = .ok (.i2l, 1) := by decide +kernel
theorem dRG_restore_97 : decode c_RG_restore 97 = .ok (.lrem, 1) := by decide +kernel
theorem dRG_restore_98 : decode c_RG_restore 98 = .ok (.l2i, 1) := by decide +kernel
theorem dRG_restore_99 : decode c_RG_restore 99 = .ok (.iastore, 1) := by decide +kernel
theorem dRG_restore_100 : decode c_RG_restore 100 = .ok (.iinc 2 1, 3) := by decide +kernel
theorem dRG_restore_103 : decode c_RG_restore 103 = .ok (.goto (-30), 3) := by decide +kernel
theorem dRG_restore_106 : decode c_RG_restore 106 = .ok (.return_, 1) := by decide +kernel
set_option maxHeartbeats 400000 in
set_option maxRecDepth 100000 in
theorem t_RG_spread_11 (l : Launch) (g : Gd) (sz : Nat) (T : Ty) (xs : List Nat) (pl : va_W) (hO : okx g T xs pl) (hU : uni T) (hc0 : clo T xs 0) (h0 f st hf : Nat) (rt : Int64) (k_h0 : T h0 = some (11, 0)) (k_f : T f = some (0, 256)) (h1 : st + 2 * hf ≤ 256)  : Met l y_RG_spread w_RG_spread ({ frames := 0, cells := 0, slots := 0, locals := 0 } : Room) (va_Pc [.ref h0, .ref f, .int (nI st), .int (nI hf), .long rt] (pr (en g) g.1 vcl sz ([] ++ pl))) (va_Qv (fun (u : va_W) => (True) ∧ okx g T xs u) (po g.1 vcl (va_A ([] ++ pl) sz) (fun (u : va_W) => [] ++ u)) (va_A ([] ++ pl) sz)) 0 0 (va_A ([] ++ pl) sz) := by
  sorry
set_option maxHeartbeats 400000 in
set_option maxRecDepth 100000 in
theorem t_RG_spread_12 (l : Launch) (g : Gd) (sz : Nat) (T : Ty) (xs : List Nat) (pl : va_W) (hO : okx g T xs pl) (hU : uni T) (hc0 : clo T xs 0) (h0 f st hf : Nat) (rt : Int64) (k_h0 : T h0 = some (12, 0)) (k_f : T f = some (0, 256)) (h1 : st + 2 * hf ≤ 256)  : Met l y_RG_spread w_RG_spread ({ frames := 0, cells := 0, slots := 0, locals := 0 } : Room) (va_Pc [.ref h0, .ref f, .int (nI st), .int (nI hf), .long rt] (pr (en g) g.1 vcl sz ([] ++ pl))) (va_Qv (fun (u : va_W) => (True) ∧ okx g T xs u) (po g.1 vcl (va_A ([] ++ pl) sz) (fun (u : va_W) => [] ++ u)) (va_A ([] ++ pl) sz)) 0 0 (va_A ([] ++ pl) sz) := by
  sorry
set_option maxHeartbeats 400000 in
set_option maxRecDepth 100000 in
theorem t_RG_gather_11 (l : Launch) (g : Gd) (sz : Nat) (T : Ty) (xs : List Nat) (pl : va_W) (hO : okx g T xs pl) (hU : uni T) (hc0 : clo T xs 0) (h0 f st hf : Nat) (rt : Int64) (k_h0 : T h0 = some (11, 0)) (k_f : T f = some (0, 256)) (h1 : st + 2 * hf ≤ 256)  : Met l y_RG_gather w_RG_gather ({ frames := 0, cells := 0, slots := 0, locals := 0 } : Room) (va_Pc [.ref h0, .ref f, .int (nI st), .int (nI hf), .long rt] (pr (en g) g.1 vcl sz ([] ++ pl))) (va_Qv (fun (u : va_W) => (True) ∧ okx g T xs u) (po g.1 vcl (va_A ([] ++ pl) sz) (fun (u : va_W) => [] ++ u)) (va_A ([] ++ pl) sz)) 0 0 (va_A ([] ++ pl) sz) := by
  sorry
set_option maxHeartbeats 400000 in
set_option maxRecDepth 100000 in
theorem t_RG_gather_12 (l : Launch) (g : Gd) (sz : Nat) (T : Ty) (xs : List Nat) (pl : va_W) (hO : okx g T xs pl) (hU : uni T) (hc0 : clo T xs 0) (h0 f st hf : Nat) (rt : Int64) (k_h0 : T h0 = some (12, 0)) (k_f : T f = some (0, 256)) (h1 : st + 2 * hf ≤ 256)  : Met l y_RG_gather w_RG_gather ({ frames := 0, cells := 0, slots := 0, locals := 0 } : Room) (va_Pc [.ref h0, .ref f, .int (nI st), .int (nI hf), .long rt] (pr (en g) g.1 vcl sz ([] ++ pl))) (va_Qv (fun (u : va_W) => (True) ∧ okx g T xs u) (po g.1 vcl (va_A ([] ++ pl) sz) (fun (u : va_W) => [] ++ u)) (va_A ([] ++ pl) sz)) 0 0 (va_A ([] ++ pl) sz) := by
  sorry
set_option maxHeartbeats 400000 in
set_option maxRecDepth 100000 in
theorem t_RG_transform_11 (l : Launch) (g : Gd) (sz : Nat) (T : Ty) (xs : List Nat) (pl : va_W) (hO : okx g T xs pl) (hU : uni T) (hc0 : clo T xs 0) (h0 f : Nat) (k_h0 : T h0 = some (11, 0)) (k_f : T f = some (0, 256))  : Met l y_RG_transform w_RG_transform ({ frames := 1, cells := 0, slots := 0, locals := 29 } : Room) (va_Pc [.ref h0, .ref f] (pr (en g) g.1 vcl sz ([] ++ pl))) (va_Qv (fun (u : va_W) => (True) ∧ okx g T xs u) (po g.1 vcl (va_A ([] ++ pl) sz) (fun (u : va_W) => [] ++ u)) (va_A ([] ++ pl) sz)) 0 0 (va_A ([] ++ pl) sz) := by
  sorry
set_option maxHeartbeats 400000 in
set_option maxRecDepth 100000 in
theorem t_RG_transform_12 (l : Launch) (g : Gd) (sz : Nat) (T : Ty) (xs : List Nat) (pl : va_W) (hO : okx g T xs pl) (hU : uni T) (hc0 : clo T xs 0) (h0 f : Nat) (k_h0 : T h0 = some (12, 0)) (k_f : T f = some (0, 256))  : Met l y_RG_transform w_RG_transform ({ frames := 1, cells := 0, slots := 0, locals := 29 } : Room) (va_Pc [.ref h0, .ref f] (pr (en g) g.1 vcl sz ([] ++ pl))) (va_Qv (fun (u : va_W) => (True) ∧ okx g T xs u) (po g.1 vcl (va_A ([] ++ pl) sz) (fun (u : va_W) => [] ++ u)) (va_A ([] ++ pl) sz)) 0 0 (va_A ([] ++ pl) sz) := by
  sorry
set_option maxHeartbeats 400000 in
set_option maxRecDepth 100000 in
theorem t_RG_restore_11 (l : Launch) (g : Gd) (sz : Nat) (T : Ty) (xs : List Nat) (pl : va_W) (hO : okx g T xs pl) (hU : uni T) (hc0 : clo T xs 0) (h0 f : Nat) (k_h0 : T h0 = some (11, 0)) (k_f : T f = some (0, 256))  : Met l y_RG_restore w_RG_restore ({ frames := 1, cells := 0, slots := 0, locals := 28 } : Room) (va_Pc [.ref h0, .ref f] (pr (en g) g.1 vcl sz ([] ++ pl))) (va_Qv (fun (u : va_W) => (True) ∧ okx g T xs u) (po g.1 vcl (va_A ([] ++ pl) sz) (fun (u : va_W) => [] ++ u)) (va_A ([] ++ pl) sz)) 0 0 (va_A ([] ++ pl) sz) := by
  sorry
set_option maxHeartbeats 400000 in
set_option maxRecDepth 100000 in
theorem t_RG_restore_12 (l : Launch) (g : Gd) (sz : Nat) (T : Ty) (xs : List Nat) (pl : va_W) (hO : okx g T xs pl) (hU : uni T) (hc0 : clo T xs 0) (h0 f : Nat) (k_h0 : T h0 = some (12, 0)) (k_f : T f = some (0, 256))  : Met l y_RG_restore w_RG_restore ({ frames := 1, cells := 0, slots := 0, locals := 28 } : Room) (va_Pc [.ref h0, .ref f] (pr (en g) g.1 vcl sz ([] ++ pl))) (va_Qv (fun (u : va_W) => (True) ∧ okx g T xs u) (po g.1 vcl (va_A ([] ++ pl) sz) (fun (u : va_W) => [] ++ u)) (va_A ([] ++ pl) sz)) 0 0 (va_A ([] ++ pl) sz) := by
  sorry
