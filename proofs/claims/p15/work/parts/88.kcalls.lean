set_option maxRecDepth 100000 in
theorem kw_25 : (Jvm.Cond.initialized "java/lang/UnsupportedOperationException") ∈ WG := wgr_1 25 (by rfl) (by rfl)
abbrev c_K_keys : ByteArray := prog_1_method_6_code
abbrev y_K_keys : MethodName := ⟨"LatticeKeys", "keys", "(I)I"⟩
abbrev w_K_keys : List Cond := Cond.code y_K_keys c_K_keys 4 (some .int) :: WG
theorem dK_keys_0 : decode c_K_keys 0 = .ok (.iload_n 1, 1) := by decide +kernel
theorem dK_keys_1 : decode c_K_keys 1 = .ok (.invokestatic 95, 3) := by decide +kernel
theorem dK_keys_4 : decode c_K_keys 4 = .ok (.ifCond .eq 14, 3) := by decide +kernel
theorem dK_keys_7 : decode c_K_keys 7 = .ok (.aload_n 0, 1) := by decide +kernel
theorem dK_keys_8 : decode c_K_keys 8 = .ok (.getfield 13, 3) := by decide +kernel
theorem dK_keys_11 : decode c_K_keys 11 = .ok (.iload_n 1, 1) := by decide +kernel
theorem dK_keys_12 : decode c_K_keys 12 = .ok (.invokestatic 99, 3) := by decide +kernel
theorem dK_keys_15 : decode c_K_keys 15 = .ok (.if_icmp .eq 13, 3) := by decide +kernel
theorem dK_keys_18 : decode c_K_keys 18 = .ok (.new 79, 3) := by decide +kernel
theorem dK_keys_21 : decode c_K_keys 21 = .ok (.dup, 1) := by decide +kernel
theorem dK_keys_22 : decode c_K_keys 22 = .ok (.ldc 103, 2) := by decide +kernel
theorem dK_keys_24 : decode c_K_keys 24 = .ok (.invokespecial 83, 3) := by decide +kernel
theorem dK_keys_27 : decode c_K_keys 27 = .ok (.athrow, 1) := by decide +kernel
theorem dK_keys_28 : decode c_K_keys 28 = .ok (.aload_n 0, 1) := by decide +kernel
theorem dK_keys_29 : decode c_K_keys 29 = .ok (.getfield 29, 3) := by decide +kernel
theorem dK_keys_32 : decode c_K_keys 32 = .ok (.bipush 8, 2) := by decide +kernel
theorem dK_keys_34 : decode c_K_keys 34 = .ok (.if_icmp .lt 13, 3) := by decide +kernel
theorem dK_keys_37 : decode c_K_keys 37 = .ok (.new 69, 3) := by decide +kernel
theorem dK_keys_40 : decode c_K_keys 40 = .ok (.dup, 1) := by decide +kernel
theorem dK_keys_41 : decode c_K_keys 41 = .ok (.ldc 105, 2) := by decide +kernel
theorem dK_keys_43 : decode c_K_keys 43 = .ok (.invokespecial 73, 3) := by decide +kernel
theorem dK_keys_46 : decode c_K_keys 46 = .ok (.athrow, 1) := by decide +kernel
theorem dK_keys_47 : decode c_K_keys 47 = .ok (.aload_n 0, 1) := by decide +kernel
theorem dK_keys_48 : decode c_K_keys 48 = .ok (.iload_n 1, 1) := by decide +kernel
theorem dK_keys_49 : decode c_K_keys 49 = .ok (.invokevirtual 107, 3) := by decide +kernel
theorem dK_keys_52 : decode c_K_keys 52 = .ok (.newarray .byte, 2) := by decide +kernel
theorem dK_keys_54 : decode c_K_keys 54 = .ok (.astore_n 2, 1) := by decide +kernel
theorem dK_keys_55 : decode c_K_keys 55 = .ok (.aload_n 0, 1) := by decide +kernel
theorem dK_keys_56 : decode c_K_keys 56 = .ok (.iload_n 1, 1) := by decide +kernel
theorem dK_keys_57 : decode c_K_keys 57 = .ok (.invokevirtual 110, 3) := by decide +kernel
theorem dK_keys_60 : decode c_K_keys 60 = .ok (.newarray .byte, 2) := by decide +kernel
theorem dK_keys_62 : decode c_K_keys 62 = .ok (.astore_n 3, 1) := by decide +kernel
theorem dK_keys_63 : decode c_K_keys 63 = .ok (.iload_n 1, 1) := by decide +kernel
theorem dK_keys_64 : decode c_K_keys 64 = .ok (.iconst 3, 1) := by decide +kernel
theorem dK_keys_65 : decode c_K_keys 65 = .ok (.if_icmp .ge 25, 3) := by decide +kernel
theorem dK_keys_68 : decode c_K_keys 68 = .ok (.aload_n 0, 1) := by decide +kernel
theorem dK_keys_69 : decode c_K_keys 69 = .ok (.getfield 54, 3) := by decide +kernel
theorem dK_keys_72 : decode c_K_keys 72 = .ok (.aload_n 0, 1) := by decide +kernel
theorem dK_keys_73 : decode c_K_keys 73 = .ok (.getfield 34, 3) := by decide +kernel
theorem dK_keys_76 : decode c_K_keys 76 = .ok (.iload_n 1, 1) := by decide +kernel
theorem dK_keys_77 : decode c_K_keys 77 = .ok (.aaload, 1) := by decide +kernel
theorem dK_keys_78 : decode c_K_keys 78 = .ok (.aload_n 0, 1) := by decide +kernel
theorem dK_keys_79 : decode c_K_keys 79 = .ok (.getfield 9, 3) := by decide +kernel
theorem dK_keys_82 : decode c_K_keys 82 = .ok (.aload_n 2, 1) := by decide +kernel
theorem dK_keys_83 : decode c_K_keys 83 = .ok (.aload_n 3, 1) := by decide +kernel
theorem dK_keys_84 : decode c_K_keys 84 = .ok (.invokevirtual 113, 3) := by decide +kernel
theorem dK_keys_87 : decode c_K_keys 87 = .ok (.goto 24, 3) := by decide +kernel
theorem dK_keys_90 : decode c_K_keys 90 = .ok (.aload_n 0, 1) := by decide +kernel
theorem dK_keys_91 : decode c_K_keys 91 = .ok (.getfield 61, 3) := by decide +kernel
theorem dK_keys_94 : decode c_K_keys 94 = .ok (.aload_n 0, 1) := by decide +kernel
theorem dK_keys_95 : decode c_K_keys 95 = .ok (.getfield 40, 3) := by decide +kernel
theorem dK_keys_98 : decode c_K_keys 98 = .ok (.iload_n 1, 1) := by decide +kernel
theorem dK_keys_99 : decode c_K_keys 99 = .ok (.iconst 3, 1) := by decide +kernel
theorem dK_keys_100 : decode c_K_keys 100 = .ok (.isub, 1) := by decide +kernel
theorem dK_keys_101 : decode c_K_keys 101 = .ok (.aaload, 1) := by decide +kernel
theorem dK_keys_102 : decode c_K_keys 102 = .ok (.aload_n 0, 1) := by decide +kernel
theorem dK_keys_103 : decode c_K_keys 103 = .ok (.getfield 9, 3) := by decide +kernel
theorem dK_keys_106 : decode c_K_keys 106 = .ok (.aload_n 2, 1) := by decide +kernel
theorem dK_keys_107 : decode c_K_keys 107 = .ok (.aload_n 3, 1) := by decide +kernel
theorem dK_keys_108 : decode c_K_keys 108 = .ok (.invokevirtual 117, 3) := by decide +kernel
theorem dK_keys_111 : decode c_K_keys 111 = .ok (.aload_n 0, 1) := by decide +kernel
theorem dK_keys_112 : decode c_K_keys 112 = .ok (.iconst 0, 1) := by decide +kernel
theorem dK_keys_113 : decode c_K_keys 113 = .ok (.putfield 13, 3) := by decide +kernel
theorem dK_keys_116 : decode c_K_keys 116 = .ok (.aload_n 0, 1) := by decide +kernel
theorem dK_keys_117 : decode c_K_keys 117 = .ok (.new 23, 3) := by decide +kernel
theorem dK_keys_120 : decode c_K_keys 120 = .ok (.dup, 1) := by decide +kernel
theorem dK_keys_121 : decode c_K_keys 121 = .ok (.iload_n 1, 1) := by decide +kernel
theorem dK_keys_122 : decode c_K_keys 122 = .ok (.aload_n 2, 1) := by decide +kernel
theorem dK_keys_123 : decode c_K_keys 123 = .ok (.aload_n 3, 1) := by decide +kernel
theorem dK_keys_124 : decode c_K_keys 124 = .ok (.invokespecial 120, 3) := by decide +kernel
theorem dK_keys_127 : decode c_K_keys 127 = .ok (.invokevirtual 123, 3) := by decide +kernel
theorem dK_keys_130 : decode c_K_keys 130 = .ok (.ireturn, 1) := by decide +kernel
abbrev c_K_load : ByteArray := prog_1_method_7_code
abbrev y_K_load : MethodName := ⟨"LatticeKeys", "load", "(IZ)I"⟩
abbrev w_K_load : List Cond := Cond.code y_K_load c_K_load 4 (some .int) :: WG
theorem dK_load_0 : decode c_K_load 0 = .ok (.aload_n 0, 1) := by decide +kernel
theorem dK_load_1 : decode c_K_load 1 = .ok (.iload_n 1, 1) := by decide +kernel
theorem dK_load_2 : decode c_K_load 2 = .ok (.iload_n 2, 1) := by decide +kernel
theorem dK_load_3 : decode c_K_load 3 = .ok (.invokevirtual 127, 3) := by decide +kernel
theorem dK_load_6 : decode c_K_load 6 = .ok (.ifCond .ne 13, 3) := by decide +kernel
theorem dK_load_9 : decode c_K_load 9 = .ok (.new 79, 3) := by decide +kernel
theorem dK_load_12 : decode c_K_load 12 = .ok (.dup, 1) := by decide +kernel
theorem dK_load_13 : decode c_K_load 13 = .ok (.ldc 131, 2) := by decide +kernel
theorem dK_load_15 : decode c_K_load 15 = .ok (.invokespecial 83, 3) := by decide +kernel
theorem dK_load_18 : decode c_K_load 18 = .ok (.athrow, 1) := by decide +kernel
theorem dK_load_19 : decode c_K_load 19 = .ok (.iload_n 1, 1) := by decide +kernel
theorem dK_load_20 : decode c_K_load 20 = .ok (.iconst 3, 1) := by decide +kernel
theorem dK_load_21 : decode c_K_load 21 = .ok (.if_icmp .ge 27, 3) := by decide +kernel
theorem dK_load_24 : decode c_K_load 24 = .ok (.aload_n 0, 1) := by decide +kernel
theorem dK_load_25 : decode c_K_load 25 = .ok (.aload_n 0, 1) := by decide +kernel
theorem dK_load_26 : decode c_K_load 26 = .ok (.getfield 34, 3) := by decide +kernel
theorem dK_load_29 : decode c_K_load 29 = .ok (.iload_n 1, 1) := by decide +kernel
theorem dK_load_30 : decode c_K_load 30 = .ok (.aaload, 1) := by decide +kernel
theorem dK_load_31 : decode c_K_load 31 = .ok (.iload_n 2, 1) := by decide +kernel
theorem dK_load_32 : decode c_K_load 32 = .ok (.invokevirtual 133, 3) := by decide +kernel
theorem dK_load_35 : decode c_K_load 35 = .ok (.ifCond .ne 13, 3) := by decide +kernel
theorem dK_load_38 : decode c_K_load 38 = .ok (.new 137, 3) := by decide +kernel
theorem dK_load_41 : decode c_K_load 41 = .ok (.dup, 1) := by decide +kernel
theorem dK_load_42 : decode c_K_load 42 = .ok (.ldc 139, 2) := by decide +kernel
theorem dK_load_44 : decode c_K_load 44 = .ok (.invokespecial 141, 3) := by decide +kernel
theorem dK_load_47 : decode c_K_load 47 = .ok (.athrow, 1) := by decide +kernel
theorem dK_load_48 : decode c_K_load 48 = .ok (.aload_n 0, 1) := by decide +kernel
theorem dK_load_49 : decode c_K_load 49 = .ok (.getfield 29, 3) := by decide +kernel
theorem dK_load_52 : decode c_K_load 52 = .ok (.bipush 8, 2) := by decide +kernel
theorem dK_load_54 : decode c_K_load 54 = .ok (.if_icmp .lt 13, 3) := by decide +kernel
theorem dK_load_57 : decode c_K_load 57 = .ok (.new 69, 3) := by decide +kernel
theorem dK_load_60 : decode c_K_load 60 = .ok (.dup, 1) := by decide +kernel
theorem dK_load_61 : decode c_K_load 61 = .ok (.ldc 105, 2) := by decide +kernel
theorem dK_load_63 : decode c_K_load 63 = .ok (.invokespecial 73, 3) := by decide +kernel
theorem dK_load_66 : decode c_K_load 66 = .ok (.athrow, 1) := by decide +kernel
theorem dK_load_67 : decode c_K_load 67 = .ok (.iload_n 2, 1) := by decide +kernel
theorem dK_load_68 : decode c_K_load 68 = .ok (.ifCond .eq 11, 3) := by decide +kernel
theorem dK_load_71 : decode c_K_load 71 = .ok (.aload_n 0, 1) := by decide +kernel
theorem dK_load_72 : decode c_K_load 72 = .ok (.iload_n 1, 1) := by decide +kernel
theorem dK_load_73 : decode c_K_load 73 = .ok (.invokevirtual 142, 3) := by decide +kernel
theorem dK_load_76 : decode c_K_load 76 = .ok (.goto 23, 3) := by decide +kernel
theorem dK_load_79 : decode c_K_load 79 = .ok (.new 23, 3) := by decide +kernel
theorem dK_load_82 : decode c_K_load 82 = .ok (.dup, 1) := by decide +kernel
theorem dK_load_83 : decode c_K_load 83 = .ok (.iload_n 1, 1) := by decide +kernel
theorem dK_load_84 : decode c_K_load 84 = .ok (.aload_n 0, 1) := by decide +kernel
theorem dK_load_85 : decode c_K_load 85 = .ok (.getfield 9, 3) := by decide +kernel
theorem dK_load_88 : decode c_K_load 88 = .ok (.aload_n 0, 1) := by decide +kernel
theorem dK_load_89 : decode c_K_load 89 = .ok (.getfield 13, 3) := by decide +kernel
theorem dK_load_92 : decode c_K_load 92 = .ok (.invokestatic 146, 3) := by decide +kernel
theorem dK_load_95 : decode c_K_load 95 = .ok (.aconst_null, 1) := by decide +kernel
theorem dK_load_96 : decode c_K_load 96 = .ok (.invokespecial 120, 3) := by decide +kernel
theorem dK_load_99 : decode c_K_load 99 = .ok (.astore_n 3, 1) := by decide +kernel
theorem dK_load_100 : decode c_K_load 100 = .ok (.aload_n 0, 1) := by decide +kernel
theorem dK_load_101 : decode c_K_load 101 = .ok (.iconst 0, 1) := by decide +kernel
theorem dK_load_102 : decode c_K_load 102 = .ok (.putfield 13, 3) := by decide +kernel
theorem dK_load_105 : decode c_K_load 105 = .ok (.aload_n 0, 1) := by decide +kernel
theorem dK_load_106 : decode c_K_load 106 = .ok (.aload_n 3, 1) := by decide +kernel
theorem dK_load_107 : decode c_K_load 107 = .ok (.invokevirtual 123, 3) := by decide +kernel
theorem dK_load_110 : decode c_K_load 110 = .ok (.ireturn, 1) := by decide +kernel
abbrev c_K_seal : ByteArray := prog_1_method_11_code
abbrev y_K_seal : MethodName := ⟨"LatticeKeys", "seal", "(I)I"⟩
abbrev w_K_seal : List Cond := Cond.code y_K_seal c_K_seal 4 (some .int) :: WG
theorem dK_seal_0 : decode c_K_seal 0 = .ok (.aload_n 0, 1) := by decide +kernel
theorem dK_seal_1 : decode c_K_seal 1 = .ok (.iload_n 1, 1) := by decide +kernel
theorem dK_seal_2 : decode c_K_seal 2 = .ok (.invokevirtual 179, 3) := by decide +kernel
theorem dK_seal_5 : decode c_K_seal 5 = .ok (.astore_n 2, 1) := by decide +kernel
theorem dK_seal_6 : decode c_K_seal 6 = .ok (.aload_n 2, 1) := by decide +kernel
theorem dK_seal_7 : decode c_K_seal 7 = .ok (.ifnonnull 13, 3) := by decide +kernel
theorem dK_seal_10 : decode c_K_seal 10 = .ok (.new 156, 3) := by decide +kernel
theorem dK_seal_13 : decode c_K_seal 13 = .ok (.dup, 1) := by decide +kernel
theorem dK_seal_14 : decode c_K_seal 14 = .ok (.ldc 182, 2) := by decide +kernel
theorem dK_seal_16 : decode c_K_seal 16 = .ok (.invokespecial 160, 3) := by decide +kernel
theorem dK_seal_19 : decode c_K_seal 19 = .ok (.athrow, 1) := by decide +kernel
theorem dK_seal_20 : decode c_K_seal 20 = .ok (.aload_n 0, 1) := by decide +kernel
theorem dK_seal_21 : decode c_K_seal 21 = .ok (.getfield 13, 3) := by decide +kernel
theorem dK_seal_24 : decode c_K_seal 24 = .ok (.bipush 32, 2) := by decide +kernel
theorem dK_seal_26 : decode c_K_seal 26 = .ok (.if_icmp .eq 13, 3) := by decide +kernel
theorem dK_seal_29 : decode c_K_seal 29 = .ok (.new 79, 3) := by decide +kernel
theorem dK_seal_32 : decode c_K_seal 32 = .ok (.dup, 1) := by decide +kernel
theorem dK_seal_33 : decode c_K_seal 33 = .ok (.ldc 184, 2) := by decide +kernel
theorem dK_seal_35 : decode c_K_seal 35 = .ok (.invokespecial 83, 3) := by decide +kernel
theorem dK_seal_38 : decode c_K_seal 38 = .ok (.athrow, 1) := by decide +kernel
theorem dK_seal_39 : decode c_K_seal 39 = .ok (.aload_n 0, 1) := by decide +kernel
theorem dK_seal_40 : decode c_K_seal 40 = .ok (.getfield 34, 3) := by decide +kernel
theorem dK_seal_43 : decode c_K_seal 43 = .ok (.aload_n 2, 1) := by decide +kernel
theorem dK_seal_44 : decode c_K_seal 44 = .ok (.getfield 168, 3) := by decide +kernel
theorem dK_seal_47 : decode c_K_seal 47 = .ok (.aaload, 1) := by decide +kernel
theorem dK_seal_48 : decode c_K_seal 48 = .ok (.astore_n 3, 1) := by decide +kernel
theorem dK_seal_49 : decode c_K_seal 49 = .ok (.aload_n 0, 1) := by decide +kernel
theorem dK_seal_50 : decode c_K_seal 50 = .ok (.getfield 54, 3) := by decide +kernel
theorem dK_seal_53 : decode c_K_seal 53 = .ok (.aload_n 3, 1) := by decide +kernel
theorem dK_seal_54 : decode c_K_seal 54 = .ok (.aload_n 2, 1) := by decide +kernel
theorem dK_seal_55 : decode c_K_seal 55 = .ok (.getfield 171, 3) := by decide +kernel
theorem dK_seal_58 : decode c_K_seal 58 = .ok (.aload_n 0, 1) := by decide +kernel
theorem dK_seal_59 : decode c_K_seal 59 = .ok (.getfield 9, 3) := by decide +kernel
theorem dK_seal_62 : decode c_K_seal 62 = .ok (.aload_n 0, 1) := by decide +kernel
theorem dK_seal_63 : decode c_K_seal 63 = .ok (.getfield 17, 3) := by decide +kernel
theorem dK_seal_66 : decode c_K_seal 66 = .ok (.invokevirtual 186, 3) := by decide +kernel
theorem dK_seal_69 : decode c_K_seal 69 = .ok (.aload_n 0, 1) := by decide +kernel
theorem dK_seal_70 : decode c_K_seal 70 = .ok (.iconst 0, 1) := by decide +kernel
theorem dK_seal_71 : decode c_K_seal 71 = .ok (.putfield 13, 3) := by decide +kernel
theorem dK_seal_74 : decode c_K_seal 74 = .ok (.aload_n 0, 1) := by decide +kernel
theorem dK_seal_75 : decode c_K_seal 75 = .ok (.aload_n 3, 1) := by decide +kernel
theorem dK_seal_76 : decode c_K_seal 76 = .ok (.getfield 189, 3) := by decide +kernel
theorem dK_seal_79 : decode c_K_seal 79 = .ok (.bipush 32, 2) := by decide +kernel
theorem dK_seal_81 : decode c_K_seal 81 = .ok (.iadd, 1) := by decide +kernel
theorem dK_seal_82 : decode c_K_seal 82 = .ok (.putfield 20, 3) := by decide +kernel
theorem dK_seal_85 : decode c_K_seal 85 = .ok (.aload_n 0, 1) := by decide +kernel
theorem dK_seal_86 : decode c_K_seal 86 = .ok (.getfield 20, 3) := by decide +kernel
theorem dK_seal_89 : decode c_K_seal 89 = .ok (.ireturn, 1) := by decide +kernel
abbrev c_K_open : ByteArray := prog_1_method_12_code
abbrev y_K_open : MethodName := ⟨"LatticeKeys", "open", "(I)I"⟩
abbrev w_K_open : List Cond := Cond.code y_K_open c_K_open 4 (some .int) :: WG
theorem dK_open_0 : decode c_K_open 0 = .ok (.aload_n 0, 1) := by decide +kernel
theorem dK_open_1 : decode c_K_open 1 = .ok (.iload_n 1, 1) := by decide +kernel
theorem dK_open_2 : decode c_K_open 2 = .ok (.invokevirtual 179, 3) := by decide +kernel
theorem dK_open_5 : decode c_K_open 5 = .ok (.astore_n 2, 1) := by decide +kernel
theorem dK_open_6 : decode c_K_open 6 = .ok (.aload_n 2, 1) := by decide +kernel
theorem dK_open_7 : decode c_K_open 7 = .ok (.ifnull 10, 3) := by decide +kernel
theorem dK_open_10 : decode c_K_open 10 = .ok (.aload_n 2, 1) := by decide +kernel
theorem dK_open_11 : decode c_K_open 11 = .ok (.getfield 174, 3) := by decide +kernel
theorem dK_open_14 : decode c_K_open 14 = .ok (.ifnonnull 13, 3) := by decide +kernel
theorem dK_open_17 : decode c_K_open 17 = .ok (.new 156, 3) := by decide +kernel
theorem dK_open_20 : decode c_K_open 20 = .ok (.dup, 1) := by decide +kernel
theorem dK_open_21 : decode c_K_open 21 = .ok (.ldc 192, 2) := by decide +kernel
theorem dK_open_23 : decode c_K_open 23 = .ok (.invokespecial 160, 3) := by decide +kernel
theorem dK_open_26 : decode c_K_open 26 = .ok (.athrow, 1) := by decide +kernel
theorem dK_open_27 : decode c_K_open 27 = .ok (.aload_n 0, 1) := by decide +kernel
theorem dK_open_28 : decode c_K_open 28 = .ok (.getfield 34, 3) := by decide +kernel
theorem dK_open_31 : decode c_K_open 31 = .ok (.aload_n 2, 1) := by decide +kernel
theorem dK_open_32 : decode c_K_open 32 = .ok (.getfield 168, 3) := by decide +kernel
theorem dK_open_35 : decode c_K_open 35 = .ok (.aaload, 1) := by decide +kernel
theorem dK_open_36 : decode c_K_open 36 = .ok (.astore_n 3, 1) := by decide +kernel
theorem dK_open_37 : decode c_K_open 37 = .ok (.aload_n 0, 1) := by decide +kernel
theorem dK_open_38 : decode c_K_open 38 = .ok (.getfield 13, 3) := by decide +kernel
theorem dK_open_41 : decode c_K_open 41 = .ok (.aload_n 3, 1) := by decide +kernel
theorem dK_open_42 : decode c_K_open 42 = .ok (.getfield 189, 3) := by decide +kernel
theorem dK_open_45 : decode c_K_open 45 = .ok (.if_icmp .eq 13, 3) := by decide +kernel
theorem dK_open_48 : decode c_K_open 48 = .ok (.new 79, 3) := by decide +kernel
theorem dK_open_51 : decode c_K_open 51 = .ok (.dup, 1) := by decide +kernel
theorem dK_open_52 : decode c_K_open 52 = .ok (.ldc 194, 2) := by decide +kernel
theorem dK_open_54 : decode c_K_open 54 = .ok (.invokespecial 83, 3) := by decide +kernel
theorem dK_open_57 : decode c_K_open 57 = .ok (.athrow, 1) := by decide +kernel
theorem dK_open_58 : decode c_K_open 58 = .ok (.aload_n 0, 1) := by decide +kernel
theorem dK_open_59 : decode c_K_open 59 = .ok (.getfield 54, 3) := by decide +kernel
theorem dK_open_62 : decode c_K_open 62 = .ok (.aload_n 3, 1) := by decide +kernel
theorem dK_open_63 : decode c_K_open 63 = .ok (.aload_n 2, 1) := by decide +kernel
theorem dK_open_64 : decode c_K_open 64 = .ok (.aload_n 0, 1) := by decide +kernel
theorem dK_open_65 : decode c_K_open 65 = .ok (.getfield 9, 3) := by decide +kernel
theorem dK_open_68 : decode c_K_open 68 = .ok (.aload_n 0, 1) := by decide +kernel
theorem dK_open_69 : decode c_K_open 69 = .ok (.getfield 17, 3) := by decide +kernel
theorem dK_open_72 : decode c_K_open 72 = .ok (.invokevirtual 196, 3) := by decide +kernel
theorem dK_open_75 : decode c_K_open 75 = .ok (.aload_n 0, 1) := by decide +kernel
theorem dK_open_76 : decode c_K_open 76 = .ok (.iconst 0, 1) := by decide +kernel
theorem dK_open_77 : decode c_K_open 77 = .ok (.putfield 13, 3) := by decide +kernel
theorem dK_open_80 : decode c_K_open 80 = .ok (.aload_n 0, 1) := by decide +kernel
theorem dK_open_81 : decode c_K_open 81 = .ok (.bipush 32, 2) := by decide +kernel
theorem dK_open_83 : decode c_K_open 83 = .ok (.putfield 20, 3) := by decide +kernel
theorem dK_open_86 : decode c_K_open 86 = .ok (.aload_n 0, 1) := by decide +kernel
theorem dK_open_87 : decode c_K_open 87 = .ok (.getfield 20, 3) := by decide +kernel
theorem dK_open_90 : decode c_K_open 90 = .ok (.ireturn, 1) := by decide +kernel
abbrev c_K_sign : ByteArray := prog_1_method_13_code
abbrev y_K_sign : MethodName := ⟨"LatticeKeys", "sign", "(II)I"⟩
abbrev w_K_sign : List Cond := Cond.code y_K_sign c_K_sign 6 (some .int) :: WG
theorem dK_sign_0 : decode c_K_sign 0 = .ok (.aload_n 0, 1) := by decide +kernel
theorem dK_sign_1 : decode c_K_sign 1 = .ok (.iload_n 1, 1) := by decide +kernel
theorem dK_sign_2 : decode c_K_sign 2 = .ok (.invokevirtual 200, 3) := by decide +kernel
theorem dK_sign_5 : decode c_K_sign 5 = .ok (.astore_n 3, 1) := by decide +kernel
theorem dK_sign_6 : decode c_K_sign 6 = .ok (.aload_n 3, 1) := by decide +kernel
theorem dK_sign_7 : decode c_K_sign 7 = .ok (.ifnull 10, 3) := by decide +kernel
theorem dK_sign_10 : decode c_K_sign 10 = .ok (.aload_n 3, 1) := by decide +kernel
theorem dK_sign_11 : decode c_K_sign 11 = .ok (.getfield 174, 3) := by decide +kernel
theorem dK_sign_14 : decode c_K_sign 14 = .ok (.ifnonnull 13, 3) := by decide +kernel
theorem dK_sign_17 : decode c_K_sign 17 = .ok (.new 156, 3) := by decide +kernel
theorem dK_sign_20 : decode c_K_sign 20 = .ok (.dup, 1) := by decide +kernel
theorem dK_sign_21 : decode c_K_sign 21 = .ok (.ldc 203, 2) := by decide +kernel
theorem dK_sign_23 : decode c_K_sign 23 = .ok (.invokespecial 160, 3) := by decide +kernel
theorem dK_sign_26 : decode c_K_sign 26 = .ok (.athrow, 1) := by decide +kernel
theorem dK_sign_27 : decode c_K_sign 27 = .ok (.aload_n 0, 1) := by decide +kernel
theorem dK_sign_28 : decode c_K_sign 28 = .ok (.bipush 32, 2) := by decide +kernel
theorem dK_sign_30 : decode c_K_sign 30 = .ok (.iload_n 2, 1) := by decide +kernel
theorem dK_sign_31 : decode c_K_sign 31 = .ok (.invokevirtual 205, 3) := by decide +kernel
theorem dK_sign_34 : decode c_K_sign 34 = .ok (.ifCond .ne 13, 3) := by decide +kernel
theorem dK_sign_37 : decode c_K_sign 37 = .ok (.new 79, 3) := by decide +kernel
theorem dK_sign_40 : decode c_K_sign 40 = .ok (.dup, 1) := by decide +kernel
theorem dK_sign_41 : decode c_K_sign 41 = .ok (.ldc 209, 2) := by decide +kernel
theorem dK_sign_43 : decode c_K_sign 43 = .ok (.invokespecial 83, 3) := by decide +kernel
theorem dK_sign_46 : decode c_K_sign 46 = .ok (.athrow, 1) := by decide +kernel
theorem dK_sign_47 : decode c_K_sign 47 = .ok (.aload_n 0, 1) := by decide +kernel
theorem dK_sign_48 : decode c_K_sign 48 = .ok (.getfield 40, 3) := by decide +kernel
theorem dK_sign_51 : decode c_K_sign 51 = .ok (.aload_n 3, 1) := by decide +kernel
theorem dK_sign_52 : decode c_K_sign 52 = .ok (.getfield 168, 3) := by decide +kernel
theorem dK_sign_55 : decode c_K_sign 55 = .ok (.iconst 3, 1) := by decide +kernel
theorem dK_sign_56 : decode c_K_sign 56 = .ok (.isub, 1) := by decide +kernel
theorem dK_sign_57 : decode c_K_sign 57 = .ok (.aaload, 1) := by decide +kernel
theorem dK_sign_58 : decode c_K_sign 58 = .ok (.astore 4, 2) := by decide +kernel
theorem dK_sign_60 : decode c_K_sign 60 = .ok (.aload_n 0, 1) := by decide +kernel
theorem dK_sign_61 : decode c_K_sign 61 = .ok (.getfield 61, 3) := by decide +kernel
theorem dK_sign_64 : decode c_K_sign 64 = .ok (.aload 4, 2) := by decide +kernel
theorem dK_sign_66 : decode c_K_sign 66 = .ok (.aload_n 3, 1) := by decide +kernel
theorem dK_sign_67 : decode c_K_sign 67 = .ok (.getfield 174, 3) := by decide +kernel
theorem dK_sign_70 : decode c_K_sign 70 = .ok (.aload_n 0, 1) := by decide +kernel
theorem dK_sign_71 : decode c_K_sign 71 = .ok (.getfield 9, 3) := by decide +kernel
theorem dK_sign_74 : decode c_K_sign 74 = .ok (.aload_n 0, 1) := by decide +kernel
theorem dK_sign_75 : decode c_K_sign 75 = .ok (.getfield 13, 3) := by decide +kernel
theorem dK_sign_78 : decode c_K_sign 78 = .ok (.iload_n 2, 1) := by decide +kernel
theorem dK_sign_79 : decode c_K_sign 79 = .ok (.aload_n 0, 1) := by decide +kernel
theorem dK_sign_80 : decode c_K_sign 80 = .ok (.getfield 17, 3) := by decide +kernel
theorem dK_sign_83 : decode c_K_sign 83 = .ok (.invokevirtual 211, 3) := by decide +kernel
theorem dK_sign_86 : decode c_K_sign 86 = .ok (.istore 5, 2) := by decide +kernel
theorem dK_sign_88 : decode c_K_sign 88 = .ok (.iload 5, 2) := by decide +kernel
theorem dK_sign_90 : decode c_K_sign 90 = .ok (.ifCond .ne 13, 3) := by decide +kernel
theorem dK_sign_93 : decode c_K_sign 93 = .ok (.new 69, 3) := by decide +kernel
theorem dK_sign_96 : decode c_K_sign 96 = .ok (.dup, 1) := by decide +kernel
theorem dK_sign_97 : decode c_K_sign 97 = .ok (.ldc 215, 2) := by decide +kernel
theorem dK_sign_99 : decode c_K_sign 99 = .ok (.invokespecial 73, 3) := by decide +kernel
theorem dK_sign_102 : decode c_K_sign 102 = .ok (.athrow, 1) := by decide +kernel
theorem dK_sign_103 : decode c_K_sign 103 = .ok (.aload_n 0, 1) := by decide +kernel
theorem dK_sign_104 : decode c_K_sign 104 = .ok (.iconst 0, 1) := by decide +kernel
theorem dK_sign_105 : decode c_K_sign 105 = .ok (.putfield 13, 3) := by decide +kernel
theorem dK_sign_108 : decode c_K_sign 108 = .ok (.aload_n 0, 1) := by decide +kernel
theorem dK_sign_109 : decode c_K_sign 109 = .ok (.aload 4, 2) := by decide +kernel
theorem dK_sign_111 : decode c_K_sign 111 = .ok (.getfield 217, 3) := by decide +kernel
theorem dK_sign_114 : decode c_K_sign 114 = .ok (.putfield 20, 3) := by decide +kernel
theorem dK_sign_117 : decode c_K_sign 117 = .ok (.iload 5, 2) := by decide +kernel
theorem dK_sign_119 : decode c_K_sign 119 = .ok (.ireturn, 1) := by decide +kernel
abbrev c_K_verify : ByteArray := prog_1_method_14_code
abbrev y_K_verify : MethodName := ⟨"LatticeKeys", "verify", "(II)Z"⟩
abbrev w_K_verify : List Cond := Cond.code y_K_verify c_K_verify 6 (some .boolean) :: WG
theorem dK_verify_0 : decode c_K_verify 0 = .ok (.aload_n 0, 1) := by decide +kernel
theorem dK_verify_1 : decode c_K_verify 1 = .ok (.iload_n 1, 1) := by decide +kernel
theorem dK_verify_2 : decode c_K_verify 2 = .ok (.invokevirtual 200, 3) := by decide +kernel
theorem dK_verify_5 : decode c_K_verify 5 = .ok (.astore_n 3, 1) := by decide +kernel
theorem dK_verify_6 : decode c_K_verify 6 = .ok (.aload_n 3, 1) := by decide +kernel
theorem dK_verify_7 : decode c_K_verify 7 = .ok (.ifnonnull 13, 3) := by decide +kernel
theorem dK_verify_10 : decode c_K_verify 10 = .ok (.new 156, 3) := by decide +kernel
theorem dK_verify_13 : decode c_K_verify 13 = .ok (.dup, 1) := by decide +kernel
theorem dK_verify_14 : decode c_K_verify 14 = .ok (.ldc 220, 2) := by decide +kernel
theorem dK_verify_16 : decode c_K_verify 16 = .ok (.invokespecial 160, 3) := by decide +kernel
theorem dK_verify_19 : decode c_K_verify 19 = .ok (.athrow, 1) := by decide +kernel
theorem dK_verify_20 : decode c_K_verify 20 = .ok (.aload_n 0, 1) := by decide +kernel
theorem dK_verify_21 : decode c_K_verify 21 = .ok (.getfield 40, 3) := by decide +kernel
theorem dK_verify_24 : decode c_K_verify 24 = .ok (.aload_n 3, 1) := by decide +kernel
theorem dK_verify_25 : decode c_K_verify 25 = .ok (.getfield 168, 3) := by decide +kernel
theorem dK_verify_28 : decode c_K_verify 28 = .ok (.iconst 3, 1) := by decide +kernel
theorem dK_verify_29 : decode c_K_verify 29 = .ok (.isub, 1) := by decide +kernel
theorem dK_verify_30 : decode c_K_verify 30 = .ok (.aaload, 1) := by decide +kernel
theorem dK_verify_31 : decode c_K_verify 31 = .ok (.astore 4, 2) := by decide +kernel
theorem dK_verify_33 : decode c_K_verify 33 = .ok (.aload_n 0, 1) := by decide +kernel
theorem dK_verify_34 : decode c_K_verify 34 = .ok (.aload 4, 2) := by decide +kernel
theorem dK_verify_36 : decode c_K_verify 36 = .ok (.getfield 217, 3) := by decide +kernel
theorem dK_verify_39 : decode c_K_verify 39 = .ok (.iload_n 2, 1) := by decide +kernel
theorem dK_verify_40 : decode c_K_verify 40 = .ok (.invokevirtual 205, 3) := by decide +kernel
theorem dK_verify_43 : decode c_K_verify 43 = .ok (.ifCond .ne 13, 3) := by decide +kernel
theorem dK_verify_46 : decode c_K_verify 46 = .ok (.new 79, 3) := by decide +kernel
theorem dK_verify_49 : decode c_K_verify 49 = .ok (.dup, 1) := by decide +kernel
theorem dK_verify_50 : decode c_K_verify 50 = .ok (.ldc 209, 2) := by decide +kernel
theorem dK_verify_52 : decode c_K_verify 52 = .ok (.invokespecial 83, 3) := by decide +kernel
theorem dK_verify_55 : decode c_K_verify 55 = .ok (.athrow, 1) := by decide +kernel
theorem dK_verify_56 : decode c_K_verify 56 = .ok (.aload_n 0, 1) := by decide +kernel
theorem dK_verify_57 : decode c_K_verify 57 = .ok (.getfield 61, 3) := by decide +kernel
theorem dK_verify_60 : decode c_K_verify 60 = .ok (.aload 4, 2) := by decide +kernel
theorem dK_verify_62 : decode c_K_verify 62 = .ok (.aload_n 3, 1) := by decide +kernel
theorem dK_verify_63 : decode c_K_verify 63 = .ok (.getfield 171, 3) := by decide +kernel
theorem dK_verify_66 : decode c_K_verify 66 = .ok (.aload_n 0, 1) := by decide +kernel
theorem dK_verify_67 : decode c_K_verify 67 = .ok (.getfield 9, 3) := by decide +kernel
theorem dK_verify_70 : decode c_K_verify 70 = .ok (.aload_n 0, 1) := by decide +kernel
theorem dK_verify_71 : decode c_K_verify 71 = .ok (.getfield 13, 3) := by decide +kernel
theorem dK_verify_74 : decode c_K_verify 74 = .ok (.iload_n 2, 1) := by decide +kernel
theorem dK_verify_75 : decode c_K_verify 75 = .ok (.invokevirtual 222, 3) := by decide +kernel
theorem dK_verify_78 : decode c_K_verify 78 = .ok (.istore 5, 2) := by decide +kernel
theorem dK_verify_80 : decode c_K_verify 80 = .ok (.aload_n 0, 1) := by decide +kernel
theorem dK_verify_81 : decode c_K_verify 81 = .ok (.iconst 0, 1) := by decide +kernel
theorem dK_verify_82 : decode c_K_verify 82 = .ok (.putfield 13, 3) := by decide +kernel
theorem dK_verify_85 : decode c_K_verify 85 = .ok (.iload 5, 2) := by decide +kernel
theorem dK_verify_87 : decode c_K_verify 87 = .ok (.ireturn, 1) := by decide +kernel
set_option maxHeartbeats 4000000 in
set_option maxRecDepth 100000 in
theorem e_K_keys (l : Launch) (htr : l.stackTraces = false) (g : Gd) (sz : Nat) (T : Ty) (pl : va_W) (hO : okx g T [] pl) (hU : uni T) (v : Int32) (h0 kt ka kp kks kds ksp kkm kda tl al pn : Nat) (k_kt : T kt = some (1, 16384)) (k_ka : T ka = some (1, 8192)) (k_kp : T kp = some (6, 0)) (k_kks : T kks = some (50, 0)) (k_kds : T kds = some (51, 0)) (k_ksp : T ksp = some (10, 0)) (k_kkm : T kkm = some (13, 0)) (k_kda : T kda = some (15, 0)) (hb : tl ≤ 16384 ∧ al ≤ 8192 ∧ pn ≤ 8)  : etMet l y_K_keys w_K_keys ({ frames := 7, cells := 3, slots := 7491, locals := 202 } : Room) (va_Pc [.ref h0, .int v] (pr (ex g) g.1 vcl sz ([(h0, .inr (0, [.ref kt, .int (nI tl), .ref ka, .int (nI al), .ref kp, .int (nI pn), .ref kks, .ref kds, .ref ksp, .ref kkm, .ref kda]))] ++ pl))) ["java/lang/IllegalArgumentException", "java/lang/IllegalStateException"] (va_Qi (fun (r : Int32) (u : (Ty × Nat × Nat × Nat) × va_W) => ((u.1.2.1 ≤ 16384 ∧ u.1.2.2.1 ≤ 8192 ∧ u.1.2.2.2 ≤ 8 ∧ ext T u.1.1 ∧ uni u.1.1) ∧ (True)) ∧ okx g u.1.1 [] u.2) (po g.1 vcl (va_A ([(h0, .inr (0, [.ref kt, .int (nI tl), .ref ka, .int (nI al), .ref kp, .int (nI pn), .ref kks, .ref kds, .ref ksp, .ref kkm, .ref kda]))] ++ pl) sz) (fun (u : (Ty × Nat × Nat × Nat) × va_W) => [(h0, .inr (0, [.ref kt, .int (nI (u.1.2.1)), .ref ka, .int (nI (u.1.2.2.1)), .ref kp, .int (nI (u.1.2.2.2)), .ref kks, .ref kds, .ref ksp, .ref kkm, .ref kda]))] ++ u.2)) (va_A ([(h0, .inr (0, [.ref kt, .int (nI tl), .ref ka, .int (nI al), .ref kp, .int (nI pn), .ref kks, .ref kds, .ref ksp, .ref kkm, .ref kda]))] ++ pl) sz)) (xtP (fun (u : (Ty × Nat × Nat × Nat) × va_W) => ((u.1.2.1 ≤ 16384 ∧ u.1.2.2.1 ≤ 8192 ∧ u.1.2.2.2 ≤ 8 ∧ ext T u.1.1 ∧ uni u.1.1) ∧ (True)) ∧ okx g u.1.1 [] u.2) (po g.1 vcl (va_A ([(h0, .inr (0, [.ref kt, .int (nI tl), .ref ka, .int (nI al), .ref kp, .int (nI pn), .ref kks, .ref kds, .ref ksp, .ref kkm, .ref kda]))] ++ pl) sz) (fun (u : (Ty × Nat × Nat × Nat) × va_W) => [(h0, .inr (0, [.ref kt, .int (nI (u.1.2.1)), .ref ka, .int (nI (u.1.2.2.1)), .ref kp, .int (nI (u.1.2.2.2)), .ref kks, .ref kds, .ref ksp, .ref kkm, .ref kda]))] ++ u.2)) (va_A ([(h0, .inr (0, [.ref kt, .int (nI tl), .ref ka, .int (nI al), .ref kp, .int (nI pn), .ref kks, .ref kds, .ref ksp, .ref kkm, .ref kda]))] ++ pl) sz)) 3 7491 (va_A ([(h0, .inr (0, [.ref kt, .int (nI tl), .ref ka, .int (nI al), .ref kp, .int (nI pn), .ref kks, .ref kds, .ref ksp, .ref kkm, .ref kda]))] ++ pl) sz) := by
  refine et_entry (cc := c_K_keys) (maxL := 4) (ret := (some .int)) (by decide) rfl (Nat.le_of_ble_eq_true rfl) ?_
  intro p e s m args below meth c ls F hr hlk htab hsz hP hD hX hA hl
  obtain ⟨hx, hb, hml, hown, hts⟩ := id F
  have hE := hX.1
  have hK := hE.1
  generalize va_A ([(h0, .inr (0, [.ref kt, .int (nI tl), .ref ka, .int (nI al), .ref kp, .int (nI pn), .ref kks, .ref kds, .ref ksp, .ref kkm, .ref kda]))] ++ pl) sz = A at hD hX hE hA ⊢
  have hXT : ext T T := ext_rf
  have hS : va_S A s.heap s.heap [] := va_S.rf
  have hl : lv_has ls 4 [(0, .ref h0), (1, .int v)] := hl
  refine lv_iload_n hx hb dK_keys_0 rfl (lv_at hl 1 rfl) ?_
  refine mp_i (cx := []) (wr := [(h0, .inr (0, [.ref kt, .int (nI tl), .ref ka, .int (nI al), .ref kp, .int (nI pn), .ref kks, .ref kds, .ref ksp, .ref kkm, .ref kda]))]) hP hD hS hA [] [0] rfl rfl rfl (by decide) (va_runS (As := [.int v]) (rest := []) F (t_K_isSet l g _ T  pl hO hU  v) (va_cwS 1 hts (wg_app (wg_c kw_558 (wg_c kw_559 (wg_c kw_1 wg_n))) kw_560) rfl rfl rfl (by decide +kernel) ⟨by decide, by decide⟩) (pp_S (en_ok g) hP hD hS hA hE [] rfl rfl) rfl rfl hl.1 rfl (lv_room (Nat.le_of_ble_eq_true rfl)) dK_keys_1 ⟨Nat.le_of_ble_eq_true rfl, Nat.le_of_ble_eq_true rfl⟩) (fun r21 pl H locs hu21 hP hD hS => ?_)
  obtain ⟨hq21, hO⟩ := hu21
  have hP : va_P g.1 vcl ([(h0, .inr (0, [.ref kt, .int (nI tl), .ref ka, .int (nI al), .ref kp, .int (nI pn), .ref kks, .ref kds, .ref ksp, .ref kkm, .ref kda]))] ++ pl) _ := hP
  have hD : va_D _ ([(h0, .inr (0, [.ref kt, .int (nI tl), .ref ka, .int (nI al), .ref kp, .int (nI pn), .ref kks, .ref kds, .ref ksp, .ref kkm, .ref kda]))] ++ pl) := hD
  refine W.widen (k := 0) (n := 0) (by omega) (by omega) ?_
  rcases hq21 with hq21 | hq21
  · obtain ⟨rfl, hbad⟩ := hq21
    refine lv_if_eq (tgt := 18) hx hb dK_keys_4 (by decide) (fun h21 => ?_) (fun h21 => absurd h21 (by decide))
    exact et_throw (own := "LatticeKeys") (cls := "java/lang/IllegalArgumentException") (text := "no such set, or a seed of another length") (names := ["java/lang/RuntimeException", "java/lang/Exception"]) (ik := 79) (is := 103) (ic := 83) hx hb htr ctr_IAE_0 ctr_IAE_1 ctr_IAE_2 ctr_IAE_5 hown (by decide) (by decide) (hts _ (wg_t kw_501)) (hts _ (wg_t kw_18)) (hX.2.2.2.2.2.1 3 ("LatticeKeys", 103, "no such set, or a seed of another length") rfl) (hat_IAE hts hX.2) hS.1 (hl.1.trans hml.symm) dK_keys_18 dK_keys_21 dK_keys_22 dK_keys_24 dK_keys_27 htab (Nat.le_of_ble_eq_true rfl) (Nat.le_of_ble_eq_true rfl) (Nat.le_of_ble_eq_true rfl) (Nat.le_of_ble_eq_true rfl) hlk (Nat.le_of_ble_eq_true rfl) (Nat.le_of_ble_eq_true rfl) List.mem_cons_self hS.2.2 (thr_st hX.2) (fun t hz9 hk9 => ⟨⟨((T, tl, al, pn), pl), ⟨⟨⟨(by show tl ≤ 16384; omega), (by show al ≤ 8192; omega), (by show pn ≤ 8; omega), hXT, hU⟩, trivial⟩, hO⟩, lc_P hP hk9, hD⟩, (lc_S hS hz9 hk9).F rfl⟩)
  · obtain ⟨rfl, j9, hj9, rfl⟩ := hq21
    match j9, hj9 with
    | 0, _ =>
      refine lv_if_eq (tgt := 18) hx hb dK_keys_4 (by decide) (fun h22 => absurd h22 (by decide)) (fun h22 => ?_)
      refine lv_aload_n hx hb dK_keys_7 rfl (lv_at hl 0 rfl) ?_
      refine va_get (D := g.1) (ci := 0) (C := "LatticeKeys") (T := T_K) (N := 11) hx hb hts (wg_ft i_K) hown hK hP 0 rfl rfl 1 (by decide) (hts _ (wg_t kw_375)) (fun _ h9 => h9) rfl dK_keys_8 ?_
      refine lv_iload_n hx hb dK_keys_11 rfl (lv_at hl 1 rfl) ?_
      refine mp_i (cx := []) (wr := [(h0, .inr (0, [.ref kt, .int (nI tl), .ref ka, .int (nI al), .ref kp, .int (nI pn), .ref kks, .ref kds, .ref ksp, .ref kkm, .ref kda]))]) hP hD hS hA [] [0] rfl rfl rfl (by decide) (va_runS (As := [.int (nI 0)]) (rest := [.int (nI tl)]) F (t_K_seedLength_0 l g _ T  pl hO hU  ) (va_cwS 1 hts (wg_app (wg_c kw_561 (wg_c kw_562 (wg_c kw_1 wg_n))) kw_563) rfl rfl rfl (by decide +kernel) ⟨by decide, by decide⟩) (pp_S (en_ok g) hP hD hS hA hE [] rfl rfl) rfl rfl hl.1 rfl (lv_room (Nat.le_of_ble_eq_true rfl)) dK_keys_12 ⟨Nat.le_of_ble_eq_true rfl, Nat.le_of_ble_eq_true rfl⟩) (fun r22 pl H locs hu22 hP hD hS => ?_)
      obtain ⟨hq22, hO⟩ := hu22
      have hP : va_P g.1 vcl ([(h0, .inr (0, [.ref kt, .int (nI tl), .ref ka, .int (nI al), .ref kp, .int (nI pn), .ref kks, .ref kds, .ref ksp, .ref kkm, .ref kda]))] ++ pl) _ := hP
      have hD : va_D _ ([(h0, .inr (0, [.ref kt, .int (nI tl), .ref ka, .int (nI al), .ref kp, .int (nI pn), .ref kks, .ref kds, .ref ksp, .ref kkm, .ref kda]))] ++ pl) := hD
      obtain rfl := hq22
      refine W.widen (k := 0) (n := 0) (by omega) (by omega) ?_
      refine mi_eq (tgt := 28) hx hb dK_keys_15 (by decide) (by omega) (by omega) (fun h23 => ?_) (fun h23 => ?_)
      · refine lv_aload_n hx hb dK_keys_28 rfl (lv_at hl 0 rfl) ?_
        refine va_get (D := g.1) (ci := 0) (C := "LatticeKeys") (T := T_K) (N := 11) hx hb hts (wg_ft i_K) hown hK hP 0 rfl rfl 5 (by decide) (hts _ (wg_t kw_379)) (fun _ h9 => h9) rfl dK_keys_29 ?_
        refine lv_bipush (v := nI 8) hx hb dK_keys_32 (by decide) ?_
        refine mi_lt (tgt := 47) hx hb dK_keys_34 (by decide) (by omega) (by omega) (fun h24 => ?_) (fun h24 => ?_)
        · refine lv_aload_n hx hb dK_keys_47 rfl (lv_at hl 0 rfl) ?_
          refine lv_iload_n hx hb dK_keys_48 rfl (lv_at hl 1 rfl) ?_
          refine mp_i (cx := [(h0, .inr (0, [.ref kt, .int (nI tl), .ref ka, .int (nI al), .ref kp, .int (nI pn), .ref kks, .ref kds, .ref ksp, .ref kkm, .ref kda]))]) (wr := []) hP hD hS hA [0] [] rfl rfl rfl (by decide) (va_runV (As := [.int (nI 0)]) (rest := []) F (t_K_publicLength_0 l g _ T  pl hO hU  h0 kt ka kp kks kds ksp kkm kda tl al pn k_kt k_ka k_kp k_kks k_kds k_ksp k_kkm k_kda (by omega)) (cwV 1 hts (wg_app (wg_c kw_566 (wg_c kw_568 (wg_c ks_2 (wg_c kw_1 wg_n)))) kw_569) rfl rfl rfl (by decide +kernel) ⟨by decide, by decide⟩) (pp_V (en_ok g) (q0 := 0) hK hP hD hS hA hE [0] rfl rfl rfl rfl) rfl rfl hl.1 rfl (lv_room (Nat.le_of_ble_eq_true rfl)) dK_keys_49 ⟨Nat.le_of_ble_eq_true rfl, Nat.le_of_ble_eq_true rfl⟩) (fun r23 pl H locs hu23 hP hD hS => ?_)
          obtain ⟨hq23, hO⟩ := hu23
          have hP : va_P g.1 vcl ([(h0, .inr (0, [.ref kt, .int (nI tl), .ref ka, .int (nI al), .ref kp, .int (nI pn), .ref kks, .ref kds, .ref ksp, .ref kkm, .ref kda]))] ++ pl) _ := hP
          have hD : va_D _ ([(h0, .inr (0, [.ref kt, .int (nI tl), .ref ka, .int (nI al), .ref kp, .int (nI pn), .ref kks, .ref kds, .ref ksp, .ref kkm, .ref kda]))] ++ pl) := hD
          obtain rfl := hq23
          refine W.widen (k := 0) (n := 0) (by omega) (by omega) ?_
          refine ma_newa (ws := [(h0, .inr (0, [.ref kt, .int (nI tl), .ref ka, .int (nI al), .ref kp, .int (nI pn), .ref kks, .ref kds, .ref ksp, .ref kkm, .ref kda]))] ++ pl) (atype := .byte) hx hb (hts _ (wg_t kw_72)) rfl hK hP hD hS hA 1 rfl (N' := 800) (a0 := (800, .inl (fun _ => 0))) (fun _ => rfl) (nI_pos (by omega)) (nI_clamp (by omega)) (by show (800) * 1 ≤ 536870912; omega) (Nat.le_of_ble_eq_true rfl) (Nat.le_of_ble_eq_true rfl) dK_keys_52 (fun q21 H hP hD hS => ?_)
          refine W.widen (k := 1) (n := 800) (by omega) (by omega) ?_
          obtain ⟨T, pl, hxt21, hU, kr21, hO, hP, hD, hnk21⟩ := absorb (X := [(h0, .inr (0, [.ref kt, .int (nI tl), .ref ka, .int (nI al), .ref kp, .int (nI pn), .ref kks, .ref kds, .ref ksp, .ref kkm, .ref kda]))]) (1, 800) hP hD hO hU (Or.inl rfl) (fun _ _ _ => ⟨_, rfl, byt_0⟩)
          have k_kt := hxt21 _ _ k_kt
          have k_ka := hxt21 _ _ k_ka
          have k_kp := hxt21 _ _ k_kp
          have k_kks := hxt21 _ _ k_kks
          have k_kds := hxt21 _ _ k_kds
          have k_ksp := hxt21 _ _ k_ksp
          have k_kkm := hxt21 _ _ k_kkm
          have k_kda := hxt21 _ _ k_kda
          have hXT := ext_tr hXT hxt21
          have hP : va_P g.1 vcl ([(h0, .inr (0, [.ref kt, .int (nI tl), .ref ka, .int (nI al), .ref kp, .int (nI pn), .ref kks, .ref kds, .ref ksp, .ref kkm, .ref kda]))] ++ pl) _ := hP
          have hD : va_D _ ([(h0, .inr (0, [.ref kt, .int (nI tl), .ref ka, .int (nI al), .ref kp, .int (nI pn), .ref kks, .ref kds, .ref ksp, .ref kkm, .ref kda]))] ++ pl) := hD
          refine lv_astore_n (lv' := [(2, .ref q21), (0, .ref h0), (1, .int (nI 0))]) hx hb dK_keys_54 rfl hl (by decide) rfl (fun ls hl => ?_)
          refine lv_aload_n hx hb dK_keys_55 rfl (lv_at hl 1 rfl) ?_
          refine lv_iload_n hx hb dK_keys_56 rfl (lv_at hl 2 rfl) ?_
          refine mp_i (cx := [(h0, .inr (0, [.ref kt, .int (nI tl), .ref ka, .int (nI al), .ref kp, .int (nI pn), .ref kks, .ref kds, .ref ksp, .ref kkm, .ref kda]))]) (wr := []) hP hD hS hA [0] [] rfl rfl rfl (by decide) (va_runV (As := [.int (nI 0)]) (rest := []) F (t_K_secretLength_0 l g _ T  pl hO hU  h0 kt ka kp kks kds ksp kkm kda tl al pn k_kt k_ka k_kp k_kks k_kds k_ksp k_kkm k_kda (by omega)) (cwV 1 hts (wg_app (wg_c kw_570 (wg_c kw_572 (wg_c ks_3 (wg_c kw_1 wg_n)))) kw_573) rfl rfl rfl (by decide +kernel) ⟨by decide, by decide⟩) (pp_V (en_ok g) (q0 := 0) hK hP hD hS hA hE [0] rfl rfl rfl rfl) rfl rfl hl.1 rfl (lv_room (Nat.le_of_ble_eq_true rfl)) dK_keys_57 ⟨Nat.le_of_ble_eq_true rfl, Nat.le_of_ble_eq_true rfl⟩) (fun r24 pl H locs hu24 hP hD hS => ?_)
          obtain ⟨hq24, hO⟩ := hu24
          have hP : va_P g.1 vcl ([(h0, .inr (0, [.ref kt, .int (nI tl), .ref ka, .int (nI al), .ref kp, .int (nI pn), .ref kks, .ref kds, .ref ksp, .ref kkm, .ref kda]))] ++ pl) _ := hP
          have hD : va_D _ ([(h0, .inr (0, [.ref kt, .int (nI tl), .ref ka, .int (nI al), .ref kp, .int (nI pn), .ref kks, .ref kds, .ref ksp, .ref kkm, .ref kda]))] ++ pl) := hD
          obtain rfl := hq24
          refine W.widen (k := 1) (n := 800) (by omega) (by omega) ?_
          refine ma_newa (ws := [(h0, .inr (0, [.ref kt, .int (nI tl), .ref ka, .int (nI al), .ref kp, .int (nI pn), .ref kks, .ref kds, .ref ksp, .ref kkm, .ref kda]))] ++ pl) (atype := .byte) hx hb (hts _ (wg_t kw_72)) rfl hK hP hD hS hA 1 rfl (N' := 1632) (a0 := (1632, .inl (fun _ => 0))) (fun _ => rfl) (nI_pos (by omega)) (nI_clamp (by omega)) (by show (1632) * 1 ≤ 536870912; omega) (Nat.le_of_ble_eq_true rfl) (Nat.le_of_ble_eq_true rfl) dK_keys_60 (fun q22 H hP hD hS => ?_)
          refine W.widen (k := 2) (n := 2432) (by omega) (by omega) ?_
          obtain ⟨T, pl, hxt22, hU, kr22, hO, hP, hD, hnk22⟩ := absorb (X := [(h0, .inr (0, [.ref kt, .int (nI tl), .ref ka, .int (nI al), .ref kp, .int (nI pn), .ref kks, .ref kds, .ref ksp, .ref kkm, .ref kda]))]) (1, 1632) hP hD hO hU (Or.inl rfl) (fun _ _ _ => ⟨_, rfl, byt_0⟩)
          have k_kt := hxt22 _ _ k_kt
          have k_ka := hxt22 _ _ k_ka
          have k_kp := hxt22 _ _ k_kp
          have k_kks := hxt22 _ _ k_kks
          have k_kds := hxt22 _ _ k_kds
          have k_ksp := hxt22 _ _ k_ksp
          have k_kkm := hxt22 _ _ k_kkm
          have k_kda := hxt22 _ _ k_kda
          have kr21 := hxt22 _ _ kr21
          have hXT := ext_tr hXT hxt22
          have hP : va_P g.1 vcl ([(h0, .inr (0, [.ref kt, .int (nI tl), .ref ka, .int (nI al), .ref kp, .int (nI pn), .ref kks, .ref kds, .ref ksp, .ref kkm, .ref kda]))] ++ pl) _ := hP
          have hD : va_D _ ([(h0, .inr (0, [.ref kt, .int (nI tl), .ref ka, .int (nI al), .ref kp, .int (nI pn), .ref kks, .ref kds, .ref ksp, .ref kkm, .ref kda]))] ++ pl) := hD
          refine lv_astore_n (lv' := [(3, .ref q22), (2, .ref q21), (0, .ref h0), (1, .int (nI 0))]) hx hb dK_keys_62 rfl hl (by decide) rfl (fun ls hl => ?_)
          refine lv_iload_n hx hb dK_keys_63 rfl (lv_at hl 3 rfl) ?_
          refine lv_iconst (v := nI 3) hx hb dK_keys_64 (by decide) ?_
          refine mi_ge (tgt := 90) hx hb dK_keys_65 (by decide) (by omega) (by omega) (fun h25 => absurd h25 (by omega)) (fun h25 => ?_)
          refine lv_aload_n hx hb dK_keys_68 rfl (lv_at hl 2 rfl) ?_
          refine va_get (D := g.1) (ci := 0) (C := "LatticeKeys") (T := T_K) (N := 11) hx hb hts (wg_ft i_K) hown hK hP 0 rfl rfl 9 (by decide) (hts _ (wg_t kw_383)) (fun _ h9 => h9) rfl dK_keys_69 ?_
          refine lv_aload_n hx hb dK_keys_72 rfl (lv_at hl 2 rfl) ?_
          refine va_get (D := g.1) (ci := 0) (C := "LatticeKeys") (T := T_K) (N := 11) hx hb hts (wg_ft i_K) hown hK hP 0 rfl rfl 6 (by decide) (hts _ (wg_t kw_380)) (fun _ h9 => h9) rfl dK_keys_73 ?_
          refine lv_iload_n hx hb dK_keys_76 rfl (lv_at hl 3 rfl) ?_
          refine ty_aald50 hx hb hK hO k_kks (nxg clo_nil k_kks rfl) hP (by omega) dK_keys_77 (fun r25 kr23 => ?_)
          refine lv_aload_n hx hb dK_keys_78 rfl (lv_at hl 2 rfl) ?_
          refine va_get (D := g.1) (ci := 0) (C := "LatticeKeys") (T := T_K) (N := 11) hx hb hts (wg_ft i_K) hown hK hP 0 rfl rfl 0 (by decide) (hts _ (wg_t kw_374)) (fun _ h9 => h9) rfl dK_keys_79 ?_
          refine lv_aload_n hx hb dK_keys_82 rfl (lv_at hl 1 rfl) ?_
          refine lv_aload_n hx hb dK_keys_83 rfl (lv_at hl 0 rfl) ?_
          refine mp_v (cx := []) (wr := [(h0, .inr (0, [.ref kt, .int (nI tl), .ref ka, .int (nI al), .ref kp, .int (nI pn), .ref kks, .ref kds, .ref ksp, .ref kkm, .ref kda]))]) hP hD hS hA [] [0] rfl rfl rfl (by decide) (va_runV (As := [.ref r25, .ref kt, .ref q21, .ref q22]) (rest := []) F (t_KM_makePair_0 l g _ T [] pl hO hU clo_nil clo_nil kkm r25 kt q21 q22 16384 k_kkm kr23 k_kt kr21 kr22 (by omega) (by omega)) (cwV 4 hts (wg_app (wg_c kw_574 (wg_c kw_575 (wg_c kw_576 (wg_c kw_3 wg_n)))) kw_577) rfl rfl rfl (by decide +kernel) ⟨by decide, by decide⟩) (pp_VT (en_ok g) (ci := 5) (kd := (13, 0)) hK hO k_kkm (nxg clo_nil k_kkm rfl) (fun _ h9 => ko1 h9) hP hD hS hA hE [] rfl rfl rfl) rfl rfl hl.1 rfl (lv_room (Nat.le_of_ble_eq_true rfl)) dK_keys_84 ⟨Nat.le_of_ble_eq_true rfl, Nat.le_of_ble_eq_true rfl⟩) (fun  pl H locs hu25 hP hD hS => ?_)
          obtain ⟨hq25, hO⟩ := hu25
          have hP : va_P g.1 vcl ([(h0, .inr (0, [.ref kt, .int (nI tl), .ref ka, .int (nI al), .ref kp, .int (nI pn), .ref kks, .ref kds, .ref ksp, .ref kkm, .ref kda]))] ++ pl) _ := hP
          have hD : va_D _ ([(h0, .inr (0, [.ref kt, .int (nI tl), .ref ka, .int (nI al), .ref kp, .int (nI pn), .ref kks, .ref kds, .ref ksp, .ref kkm, .ref kda]))] ++ pl) := hD
          refine W.widen (k := 2) (n := 2432) (by omega) (by omega) ?_
          refine lv_goto (tgt := 111) hx hb dK_keys_87 (by decide) ?_
          refine lv_aload_n hx hb dK_keys_111 rfl (lv_at hl 2 rfl) ?_
          refine lv_iconst (v := nI 0) hx hb dK_keys_112 (by decide) ?_
          refine va_put (D := g.1) (ci := 0) (v := .int (nI 0)) (ty := .int) (C := "LatticeKeys") (T := T_K) (N := 11) hx hb hts (wg_ft i_K) ty_K k_K n_K hown hK hP hD hS 0 rfl rfl 1 (by decide) (hts _ (wg_t kw_375)) (fun _ h9 => h9) rfl (by decide +kernel) rfl rfl (Nat.le_of_ble_eq_true rfl) dK_keys_113 (fun H locs hP hD hS => ?_)
          have hP : va_P g.1 vcl ([(h0, .inr (0, [.ref kt, .int (nI 0), .ref ka, .int (nI al), .ref kp, .int (nI pn), .ref kks, .ref kds, .ref ksp, .ref kkm, .ref kda]))] ++ pl) _ := hP
          have hD : va_D _ ([(h0, .inr (0, [.ref kt, .int (nI 0), .ref ka, .int (nI al), .ref kp, .int (nI pn), .ref kks, .ref kds, .ref ksp, .ref kkm, .ref kda]))] ++ pl) := hD
          refine lv_aload_n hx hb dK_keys_116 rfl (lv_at hl 2 rfl) ?_
          refine va_new (ws := [(h0, .inr (0, [.ref kt, .int (nI 0), .ref ka, .int (nI al), .ref kp, .int (nI pn), .ref kks, .ref kds, .ref ksp, .ref kkm, .ref kda]))] ++ pl) (ci := 13) (fs := [.int 0, .null, .null]) (C := "LatticeKeys$KeyPair") (T := T_KP) (N := 3) hx hb hts (wg_ft i_KP) ty_KP k_KP hown (hts _ (wg_t kw_43)) (hts _ (wg_t kw_740)) (hts _ (wg_t kw_24)) hK hP hD hS hA rfl z_KP (Nat.le_of_ble_eq_true rfl) (Nat.le_of_ble_eq_true rfl) dK_keys_117 (fun q23 H hP hD hS => ?_)
          obtain ⟨hP, hD⟩ := mv_first hP hD
          have hP : va_P g.1 vcl ([(h0, .inr (0, [.ref kt, .int (nI 0), .ref ka, .int (nI al), .ref kp, .int (nI pn), .ref kks, .ref kds, .ref ksp, .ref kkm, .ref kda])), (q23, .inr (13, [.int 0, .null, .null]))] ++ pl) _ := hP
          have hD : va_D _ ([(h0, .inr (0, [.ref kt, .int (nI 0), .ref ka, .int (nI al), .ref kp, .int (nI pn), .ref kks, .ref kds, .ref ksp, .ref kkm, .ref kda])), (q23, .inr (13, [.int 0, .null, .null]))] ++ pl) := hD
          refine W.widen (k := 3) (n := 2435) (by omega) (by omega) ?_
          refine lv_dup hx hb dK_keys_120 rfl ?_
          refine lv_iload_n hx hb dK_keys_121 rfl (lv_at hl 3 rfl) ?_
          refine lv_aload_n hx hb dK_keys_122 rfl (lv_at hl 1 rfl) ?_
          refine lv_aload_n hx hb dK_keys_123 rfl (lv_at hl 0 rfl) ?_
          refine mp_v (cx := [(q23, .inr (13, [.int 0, .null, .null]))]) (wr := [(h0, .inr (0, [.ref kt, .int (nI 0), .ref ka, .int (nI al), .ref kp, .int (nI pn), .ref kks, .ref kds, .ref ksp, .ref kkm, .ref kda]))]) hP hD hS hA [1] [0] rfl rfl rfl (by decide) (va_runI (As := [.int (nI 0), .ref q21, .ref q22]) (rest := [.ref q23, .ref h0]) F (t_KP_init17 l g _ T  pl hO hU  (nI 0) q23 q21 q22) (cwI 3 hts (wg_in kw_743) rfl rfl rfl (hts _ (wg_t kw_24)) (hts _ (wg_t kw_741)) (hts _ (wg_t kw_742)) rfl (by decide +kernel) ⟨by decide, by decide⟩) (pp_S (en_ok g) hP hD hS hA hE [1] rfl rfl) rfl rfl hl.1 rfl (lv_room (Nat.le_of_ble_eq_true rfl)) dK_keys_124 ⟨Nat.le_of_ble_eq_true rfl, Nat.le_of_ble_eq_true rfl⟩) (fun  pl H locs hu26 hP hD hS => ?_)
          obtain ⟨hq26, hO⟩ := hu26
          have hP : va_P g.1 vcl ([(h0, .inr (0, [.ref kt, .int (nI 0), .ref ka, .int (nI al), .ref kp, .int (nI pn), .ref kks, .ref kds, .ref ksp, .ref kkm, .ref kda])), (q23, .inr (13, [.int (nI 0), .ref q21, .ref q22]))] ++ pl) _ := hP
          have hD : va_D _ ([(h0, .inr (0, [.ref kt, .int (nI 0), .ref ka, .int (nI al), .ref kp, .int (nI pn), .ref kks, .ref kds, .ref ksp, .ref kkm, .ref kda])), (q23, .inr (13, [.int (nI 0), .ref q21, .ref q22]))] ++ pl) := hD
          refine W.widen (k := 3) (n := 2435) (by omega) (by omega) ?_
          obtain ⟨hP, hD⟩ := mv_last (X := [(h0, .inr (0, [.ref kt, .int (nI 0), .ref ka, .int (nI al), .ref kp, .int (nI pn), .ref kks, .ref kds, .ref ksp, .ref kkm, .ref kda]))]) (c := (q23, .inr (13, [.int (nI 0), .ref q21, .ref q22]))) hP hD
          obtain ⟨T, pl, hxt23, hU, kr24, hO, hP, hD, hnk23⟩ := absorb (X := [(h0, .inr (0, [.ref kt, .int (nI 0), .ref ka, .int (nI al), .ref kp, .int (nI pn), .ref kks, .ref kds, .ref ksp, .ref kkm, .ref kda]))]) (17, 0) hP hD hO hU (Or.inl rfl) (fun T9 h9 _ => ⟨_, rfl, ⟨rfl, ⟨_, rfl, h9 _ _ kr21⟩, ⟨_, rfl, h9 _ _ kr22⟩, trivial⟩⟩)
          have k_kt := hxt23 _ _ k_kt
          have k_ka := hxt23 _ _ k_ka
          have k_kp := hxt23 _ _ k_kp
          have k_kks := hxt23 _ _ k_kks
          have k_kds := hxt23 _ _ k_kds
          have k_ksp := hxt23 _ _ k_ksp
          have k_kkm := hxt23 _ _ k_kkm
          have k_kda := hxt23 _ _ k_kda
          have kr21 := hxt23 _ _ kr21
          have kr22 := hxt23 _ _ kr22
          have kr23 := hxt23 _ _ kr23
          have hXT := ext_tr hXT hxt23
          have hP : va_P g.1 vcl ([(h0, .inr (0, [.ref kt, .int (nI 0), .ref ka, .int (nI al), .ref kp, .int (nI pn), .ref kks, .ref kds, .ref ksp, .ref kkm, .ref kda]))] ++ pl) _ := hP
          have hD : va_D _ ([(h0, .inr (0, [.ref kt, .int (nI 0), .ref ka, .int (nI al), .ref kp, .int (nI pn), .ref kks, .ref kds, .ref ksp, .ref kkm, .ref kda]))] ++ pl) := hD
          refine mp_i (cx := [(h0, .inr (0, [.ref kt, .int (nI 0), .ref ka, .int (nI al), .ref kp, .int (nI pn), .ref kks, .ref kds, .ref ksp, .ref kkm, .ref kda]))]) (wr := []) hP hD hS hA [0] [] rfl rfl rfl (by decide) (va_runV (As := [.ref q23]) (rest := []) F (t_K_keep17 l g _ T  pl hO hU  q23 0 h0 kt ka kp kks kds ksp kkm kda 0 al pn k_kt k_ka k_kp k_kks k_kds k_ksp k_kkm k_kda kr24 (by omega) (by omega) (by omega)) (cwV 1 hts (wg_app (wg_c kw_760 (wg_c kw_762 (wg_c ks_19 (wg_c kw_1 wg_n)))) kw_763) rfl rfl rfl (by decide +kernel) ⟨by decide, by decide⟩) (pp_V (en_ok g) (q0 := 0) hK hP hD hS hA hE [0] rfl rfl rfl rfl) rfl rfl hl.1 rfl (lv_room (Nat.le_of_ble_eq_true rfl)) dK_keys_127 ⟨Nat.le_of_ble_eq_true rfl, Nat.le_of_ble_eq_true rfl⟩) (fun r26 pl H locs hu27 hP hD hS => ?_)
          obtain ⟨hq27, hO⟩ := hu27
          have hP : va_P g.1 vcl ([(h0, .inr (0, [.ref kt, .int (nI 0), .ref ka, .int (nI al), .ref kp, .int (nI (pn + 1)), .ref kks, .ref kds, .ref ksp, .ref kkm, .ref kda]))] ++ pl) _ := hP
          have hD : va_D _ ([(h0, .inr (0, [.ref kt, .int (nI 0), .ref ka, .int (nI al), .ref kp, .int (nI (pn + 1)), .ref kks, .ref kds, .ref ksp, .ref kkm, .ref kda]))] ++ pl) := hD
          obtain rfl := hq27
          refine W.widen (k := 3) (n := 2435) (by omega) (by omega) ?_
          refine et_ret ?_
          exact mp_iret hx hb hr hlk hP hD hS ((T, 0, al, pn + 1), pl) ⟨⟨⟨(by show 0 ≤ 16384; omega), (by show al ≤ 8192; omega), (by show pn + 1 ≤ 8; omega), hXT, hU⟩, trivial⟩, hO⟩ [0] rfl rfl rfl (by omega) (by omega) dK_keys_130
        · exact et_throw (own := "LatticeKeys") (cls := "java/lang/IllegalStateException") (text := "no room for more keys") (names := ["java/lang/RuntimeException", "java/lang/Exception"]) (ik := 69) (is := 105) (ic := 73) hx hb htr ctr_ISE_0 ctr_ISE_1 ctr_ISE_2 ctr_ISE_5 hown (by decide) (by decide) (hts _ (wg_t kw_420)) (hts _ (wg_t kw_17)) (hX.2.2.2.2.2.1 4 ("LatticeKeys", 105, "no room for more keys") rfl) (hat_ISE hts hX.2) hS.1 (hl.1.trans hml.symm) dK_keys_37 dK_keys_40 dK_keys_41 dK_keys_43 dK_keys_46 htab (Nat.le_of_ble_eq_true rfl) (Nat.le_of_ble_eq_true rfl) (Nat.le_of_ble_eq_true rfl) (Nat.le_of_ble_eq_true rfl) hlk (Nat.le_of_ble_eq_true rfl) (Nat.le_of_ble_eq_true rfl) (List.mem_cons_of_mem _ List.mem_cons_self) hS.2.2 (thr_st hX.2) (fun t hz9 hk9 => ⟨⟨((T, tl, al, pn), pl), ⟨⟨⟨(by show tl ≤ 16384; omega), (by show al ≤ 8192; omega), (by show pn ≤ 8; omega), hXT, hU⟩, trivial⟩, hO⟩, lc_P hP hk9, hD⟩, (lc_S hS hz9 hk9).F rfl⟩)
      · exact et_throw (own := "LatticeKeys") (cls := "java/lang/IllegalArgumentException") (text := "no such set, or a seed of another length") (names := ["java/lang/RuntimeException", "java/lang/Exception"]) (ik := 79) (is := 103) (ic := 83) hx hb htr ctr_IAE_0 ctr_IAE_1 ctr_IAE_2 ctr_IAE_5 hown (by decide) (by decide) (hts _ (wg_t kw_501)) (hts _ (wg_t kw_18)) (hX.2.2.2.2.2.1 3 ("LatticeKeys", 103, "no such set, or a seed of another length") rfl) (hat_IAE hts hX.2) hS.1 (hl.1.trans hml.symm) dK_keys_18 dK_keys_21 dK_keys_22 dK_keys_24 dK_keys_27 htab (Nat.le_of_ble_eq_true rfl) (Nat.le_of_ble_eq_true rfl) (Nat.le_of_ble_eq_true rfl) (Nat.le_of_ble_eq_true rfl) hlk (Nat.le_of_ble_eq_true rfl) (Nat.le_of_ble_eq_true rfl) List.mem_cons_self hS.2.2 (thr_st hX.2) (fun t hz9 hk9 => ⟨⟨((T, tl, al, pn), pl), ⟨⟨⟨(by show tl ≤ 16384; omega), (by show al ≤ 8192; omega), (by show pn ≤ 8; omega), hXT, hU⟩, trivial⟩, hO⟩, lc_P hP hk9, hD⟩, (lc_S hS hz9 hk9).F rfl⟩)
    | 1, _ =>
      refine lv_if_eq (tgt := 18) hx hb dK_keys_4 (by decide) (fun h26 => absurd h26 (by decide)) (fun h26 => ?_)
      refine lv_aload_n hx hb dK_keys_7 rfl (lv_at hl 0 rfl) ?_
      refine va_get (D := g.1) (ci := 0) (C := "LatticeKeys") (T := T_K) (N := 11) hx hb hts (wg_ft i_K) hown hK hP 0 rfl rfl 1 (by decide) (hts _ (wg_t kw_375)) (fun _ h9 => h9) rfl dK_keys_8 ?_
      refine lv_iload_n hx hb dK_keys_11 rfl (lv_at hl 1 rfl) ?_
      refine mp_i (cx := []) (wr := [(h0, .inr (0, [.ref kt, .int (nI tl), .ref ka, .int (nI al), .ref kp, .int (nI pn), .ref kks, .ref kds, .ref ksp, .ref kkm, .ref kda]))]) hP hD hS hA [] [0] rfl rfl rfl (by decide) (va_runS (As := [.int (nI 1)]) (rest := [.int (nI tl)]) F (t_K_seedLength_1 l g _ T  pl hO hU  ) (va_cwS 1 hts (wg_app (wg_c kw_561 (wg_c kw_562 (wg_c kw_1 wg_n))) kw_563) rfl rfl rfl (by decide +kernel) ⟨by decide, by decide⟩) (pp_S (en_ok g) hP hD hS hA hE [] rfl rfl) rfl rfl hl.1 rfl (lv_room (Nat.le_of_ble_eq_true rfl)) dK_keys_12 ⟨Nat.le_of_ble_eq_true rfl, Nat.le_of_ble_eq_true rfl⟩) (fun r27 pl H locs hu28 hP hD hS => ?_)
      obtain ⟨hq28, hO⟩ := hu28
      have hP : va_P g.1 vcl ([(h0, .inr (0, [.ref kt, .int (nI tl), .ref ka, .int (nI al), .ref kp, .int (nI pn), .ref kks, .ref kds, .ref ksp, .ref kkm, .ref kda]))] ++ pl) _ := hP
      have hD : va_D _ ([(h0, .inr (0, [.ref kt, .int (nI tl), .ref ka, .int (nI al), .ref kp, .int (nI pn), .ref kks, .ref kds, .ref ksp, .ref kkm, .ref kda]))] ++ pl) := hD
      obtain rfl := hq28
      refine W.widen (k := 0) (n := 0) (by omega) (by omega) ?_
      refine mi_eq (tgt := 28) hx hb dK_keys_15 (by decide) (by omega) (by omega) (fun h27 => ?_) (fun h27 => ?_)
      · refine lv_aload_n hx hb dK_keys_28 rfl (lv_at hl 0 rfl) ?_
        refine va_get (D := g.1) (ci := 0) (C := "LatticeKeys") (T := T_K) (N := 11) hx hb hts (wg_ft i_K) hown hK hP 0 rfl rfl 5 (by decide) (hts _ (wg_t kw_379)) (fun _ h9 => h9) rfl dK_keys_29 ?_
        refine lv_bipush (v := nI 8) hx hb dK_keys_32 (by decide) ?_
        refine mi_lt (tgt := 47) hx hb dK_keys_34 (by decide) (by omega) (by omega) (fun h28 => ?_) (fun h28 => ?_)
        · refine lv_aload_n hx hb dK_keys_47 rfl (lv_at hl 0 rfl) ?_
          refine lv_iload_n hx hb dK_keys_48 rfl (lv_at hl 1 rfl) ?_
          refine mp_i (cx := [(h0, .inr (0, [.ref kt, .int (nI tl), .ref ka, .int (nI al), .ref kp, .int (nI pn), .ref kks, .ref kds, .ref ksp, .ref kkm, .ref kda]))]) (wr := []) hP hD hS hA [0] [] rfl rfl rfl (by decide) (va_runV (As := [.int (nI 1)]) (rest := []) F (t_K_publicLength_1 l g _ T  pl hO hU  h0 kt ka kp kks kds ksp kkm kda tl al pn k_kt k_ka k_kp k_kks k_kds k_ksp k_kkm k_kda (by omega)) (cwV 1 hts (wg_app (wg_c kw_566 (wg_c kw_568 (wg_c ks_2 (wg_c kw_1 wg_n)))) kw_569) rfl rfl rfl (by decide +kernel) ⟨by decide, by decide⟩) (pp_V (en_ok g) (q0 := 0) hK hP hD hS hA hE [0] rfl rfl rfl rfl) rfl rfl hl.1 rfl (lv_room (Nat.le_of_ble_eq_true rfl)) dK_keys_49 ⟨Nat.le_of_ble_eq_true rfl, Nat.le_of_ble_eq_true rfl⟩) (fun r28 pl H locs hu29 hP hD hS => ?_)
          obtain ⟨hq29, hO⟩ := hu29
          have hP : va_P g.1 vcl ([(h0, .inr (0, [.ref kt, .int (nI tl), .ref ka, .int (nI al), .ref kp, .int (nI pn), .ref kks, .ref kds, .ref ksp, .ref kkm, .ref kda]))] ++ pl) _ := hP
          have hD : va_D _ ([(h0, .inr (0, [.ref kt, .int (nI tl), .ref ka, .int (nI al), .ref kp, .int (nI pn), .ref kks, .ref kds, .ref ksp, .ref kkm, .ref kda]))] ++ pl) := hD
          obtain rfl := hq29
          refine W.widen (k := 0) (n := 0) (by omega) (by omega) ?_
          refine ma_newa (ws := [(h0, .inr (0, [.ref kt, .int (nI tl), .ref ka, .int (nI al), .ref kp, .int (nI pn), .ref kks, .ref kds, .ref ksp, .ref kkm, .ref kda]))] ++ pl) (atype := .byte) hx hb (hts _ (wg_t kw_72)) rfl hK hP hD hS hA 1 rfl (N' := 1184) (a0 := (1184, .inl (fun _ => 0))) (fun _ => rfl) (nI_pos (by omega)) (nI_clamp (by omega)) (by show (1184) * 1 ≤ 536870912; omega) (Nat.le_of_ble_eq_true rfl) (Nat.le_of_ble_eq_true rfl) dK_keys_52 (fun q24 H hP hD hS => ?_)
          refine W.widen (k := 1) (n := 1184) (by omega) (by omega) ?_
          obtain ⟨T, pl, hxt24, hU, kr25, hO, hP, hD, hnk24⟩ := absorb (X := [(h0, .inr (0, [.ref kt, .int (nI tl), .ref ka, .int (nI al), .ref kp, .int (nI pn), .ref kks, .ref kds, .ref ksp, .ref kkm, .ref kda]))]) (1, 1184) hP hD hO hU (Or.inl rfl) (fun _ _ _ => ⟨_, rfl, byt_0⟩)
          have k_kt := hxt24 _ _ k_kt
          have k_ka := hxt24 _ _ k_ka
          have k_kp := hxt24 _ _ k_kp
          have k_kks := hxt24 _ _ k_kks
          have k_kds := hxt24 _ _ k_kds
          have k_ksp := hxt24 _ _ k_ksp
          have k_kkm := hxt24 _ _ k_kkm
          have k_kda := hxt24 _ _ k_kda
          have hXT := ext_tr hXT hxt24
          have hP : va_P g.1 vcl ([(h0, .inr (0, [.ref kt, .int (nI tl), .ref ka, .int (nI al), .ref kp, .int (nI pn), .ref kks, .ref kds, .ref ksp, .ref kkm, .ref kda]))] ++ pl) _ := hP
          have hD : va_D _ ([(h0, .inr (0, [.ref kt, .int (nI tl), .ref ka, .int (nI al), .ref kp, .int (nI pn), .ref kks, .ref kds, .ref ksp, .ref kkm, .ref kda]))] ++ pl) := hD
          refine lv_astore_n (lv' := [(2, .ref q24), (0, .ref h0), (1, .int (nI 1))]) hx hb dK_keys_54 rfl hl (by decide) rfl (fun ls hl => ?_)
          refine lv_aload_n hx hb dK_keys_55 rfl (lv_at hl 1 rfl) ?_
          refine lv_iload_n hx hb dK_keys_56 rfl (lv_at hl 2 rfl) ?_
          refine mp_i (cx := [(h0, .inr (0, [.ref kt, .int (nI tl), .ref ka, .int (nI al), .ref kp, .int (nI pn), .ref kks, .ref kds, .ref ksp, .ref kkm, .ref kda]))]) (wr := []) hP hD hS hA [0] [] rfl rfl rfl (by decide) (va_runV (As := [.int (nI 1)]) (rest := []) F (t_K_secretLength_1 l g _ T  pl hO hU  h0 kt ka kp kks kds ksp kkm kda tl al pn k_kt k_ka k_kp k_kks k_kds k_ksp k_kkm k_kda (by omega)) (cwV 1 hts (wg_app (wg_c kw_570 (wg_c kw_572 (wg_c ks_3 (wg_c kw_1 wg_n)))) kw_573) rfl rfl rfl (by decide +kernel) ⟨by decide, by decide⟩) (pp_V (en_ok g) (q0 := 0) hK hP hD hS hA hE [0] rfl rfl rfl rfl) rfl rfl hl.1 rfl (lv_room (Nat.le_of_ble_eq_true rfl)) dK_keys_57 ⟨Nat.le_of_ble_eq_true rfl, Nat.le_of_ble_eq_true rfl⟩) (fun r29 pl H locs hu30 hP hD hS => ?_)
          obtain ⟨hq30, hO⟩ := hu30
          have hP : va_P g.1 vcl ([(h0, .inr (0, [.ref kt, .int (nI tl), .ref ka, .int (nI al), .ref kp, .int (nI pn), .ref kks, .ref kds, .ref ksp, .ref kkm, .ref kda]))] ++ pl) _ := hP
          have hD : va_D _ ([(h0, .inr (0, [.ref kt, .int (nI tl), .ref ka, .int (nI al), .ref kp, .int (nI pn), .ref kks, .ref kds, .ref ksp, .ref kkm, .ref kda]))] ++ pl) := hD
          obtain rfl := hq30
          refine W.widen (k := 1) (n := 1184) (by omega) (by omega) ?_
          refine ma_newa (ws := [(h0, .inr (0, [.ref kt, .int (nI tl), .ref ka, .int (nI al), .ref kp, .int (nI pn), .ref kks, .ref kds, .ref ksp, .ref kkm, .ref kda]))] ++ pl) (atype := .byte) hx hb (hts _ (wg_t kw_72)) rfl hK hP hD hS hA 1 rfl (N' := 2400) (a0 := (2400, .inl (fun _ => 0))) (fun _ => rfl) (nI_pos (by omega)) (nI_clamp (by omega)) (by show (2400) * 1 ≤ 536870912; omega) (Nat.le_of_ble_eq_true rfl) (Nat.le_of_ble_eq_true rfl) dK_keys_60 (fun q25 H hP hD hS => ?_)
          refine W.widen (k := 2) (n := 3584) (by omega) (by omega) ?_
          obtain ⟨T, pl, hxt25, hU, kr26, hO, hP, hD, hnk25⟩ := absorb (X := [(h0, .inr (0, [.ref kt, .int (nI tl), .ref ka, .int (nI al), .ref kp, .int (nI pn), .ref kks, .ref kds, .ref ksp, .ref kkm, .ref kda]))]) (1, 2400) hP hD hO hU (Or.inl rfl) (fun _ _ _ => ⟨_, rfl, byt_0⟩)
          have k_kt := hxt25 _ _ k_kt
          have k_ka := hxt25 _ _ k_ka
          have k_kp := hxt25 _ _ k_kp
          have k_kks := hxt25 _ _ k_kks
          have k_kds := hxt25 _ _ k_kds
          have k_ksp := hxt25 _ _ k_ksp
          have k_kkm := hxt25 _ _ k_kkm
          have k_kda := hxt25 _ _ k_kda
          have kr25 := hxt25 _ _ kr25
          have hXT := ext_tr hXT hxt25
          have hP : va_P g.1 vcl ([(h0, .inr (0, [.ref kt, .int (nI tl), .ref ka, .int (nI al), .ref kp, .int (nI pn), .ref kks, .ref kds, .ref ksp, .ref kkm, .ref kda]))] ++ pl) _ := hP
          have hD : va_D _ ([(h0, .inr (0, [.ref kt, .int (nI tl), .ref ka, .int (nI al), .ref kp, .int (nI pn), .ref kks, .ref kds, .ref ksp, .ref kkm, .ref kda]))] ++ pl) := hD
          refine lv_astore_n (lv' := [(3, .ref q25), (2, .ref q24), (0, .ref h0), (1, .int (nI 1))]) hx hb dK_keys_62 rfl hl (by decide) rfl (fun ls hl => ?_)
          refine lv_iload_n hx hb dK_keys_63 rfl (lv_at hl 3 rfl) ?_
          refine lv_iconst (v := nI 3) hx hb dK_keys_64 (by decide) ?_
          refine mi_ge (tgt := 90) hx hb dK_keys_65 (by decide) (by omega) (by omega) (fun h29 => absurd h29 (by omega)) (fun h29 => ?_)
          refine lv_aload_n hx hb dK_keys_68 rfl (lv_at hl 2 rfl) ?_
          refine va_get (D := g.1) (ci := 0) (C := "LatticeKeys") (T := T_K) (N := 11) hx hb hts (wg_ft i_K) hown hK hP 0 rfl rfl 9 (by decide) (hts _ (wg_t kw_383)) (fun _ h9 => h9) rfl dK_keys_69 ?_
          refine lv_aload_n hx hb dK_keys_72 rfl (lv_at hl 2 rfl) ?_
          refine va_get (D := g.1) (ci := 0) (C := "LatticeKeys") (T := T_K) (N := 11) hx hb hts (wg_ft i_K) hown hK hP 0 rfl rfl 6 (by decide) (hts _ (wg_t kw_380)) (fun _ h9 => h9) rfl dK_keys_73 ?_
          refine lv_iload_n hx hb dK_keys_76 rfl (lv_at hl 3 rfl) ?_
          refine ty_aald50 hx hb hK hO k_kks (nxg clo_nil k_kks rfl) hP (by omega) dK_keys_77 (fun r30 kr27 => ?_)
          refine lv_aload_n hx hb dK_keys_78 rfl (lv_at hl 2 rfl) ?_
          refine va_get (D := g.1) (ci := 0) (C := "LatticeKeys") (T := T_K) (N := 11) hx hb hts (wg_ft i_K) hown hK hP 0 rfl rfl 0 (by decide) (hts _ (wg_t kw_374)) (fun _ h9 => h9) rfl dK_keys_79 ?_
          refine lv_aload_n hx hb dK_keys_82 rfl (lv_at hl 1 rfl) ?_
          refine lv_aload_n hx hb dK_keys_83 rfl (lv_at hl 0 rfl) ?_
          refine mp_v (cx := []) (wr := [(h0, .inr (0, [.ref kt, .int (nI tl), .ref ka, .int (nI al), .ref kp, .int (nI pn), .ref kks, .ref kds, .ref ksp, .ref kkm, .ref kda]))]) hP hD hS hA [] [0] rfl rfl rfl (by decide) (va_runV (As := [.ref r30, .ref kt, .ref q24, .ref q25]) (rest := []) F (t_KM_makePair_1 l g _ T [] pl hO hU clo_nil clo_nil kkm r30 kt q24 q25 16384 k_kkm kr27 k_kt kr25 kr26 (by omega) (by omega)) (cwV 4 hts (wg_app (wg_c kw_574 (wg_c kw_575 (wg_c kw_576 (wg_c kw_3 wg_n)))) kw_577) rfl rfl rfl (by decide +kernel) ⟨by decide, by decide⟩) (pp_VT (en_ok g) (ci := 5) (kd := (13, 0)) hK hO k_kkm (nxg clo_nil k_kkm rfl) (fun _ h9 => ko1 h9) hP hD hS hA hE [] rfl rfl rfl) rfl rfl hl.1 rfl (lv_room (Nat.le_of_ble_eq_true rfl)) dK_keys_84 ⟨Nat.le_of_ble_eq_true rfl, Nat.le_of_ble_eq_true rfl⟩) (fun  pl H locs hu31 hP hD hS => ?_)
          obtain ⟨hq31, hO⟩ := hu31
          have hP : va_P g.1 vcl ([(h0, .inr (0, [.ref kt, .int (nI tl), .ref ka, .int (nI al), .ref kp, .int (nI pn), .ref kks, .ref kds, .ref ksp, .ref kkm, .ref kda]))] ++ pl) _ := hP
          have hD : va_D _ ([(h0, .inr (0, [.ref kt, .int (nI tl), .ref ka, .int (nI al), .ref kp, .int (nI pn), .ref kks, .ref kds, .ref ksp, .ref kkm, .ref kda]))] ++ pl) := hD
          refine W.widen (k := 2) (n := 3584) (by omega) (by omega) ?_
          refine lv_goto (tgt := 111) hx hb dK_keys_87 (by decide) ?_
          refine lv_aload_n hx hb dK_keys_111 rfl (lv_at hl 2 rfl) ?_
          refine lv_iconst (v := nI 0) hx hb dK_keys_112 (by decide) ?_
          refine va_put (D := g.1) (ci := 0) (v := .int (nI 0)) (ty := .int) (C := "LatticeKeys") (T := T_K) (N := 11) hx hb hts (wg_ft i_K) ty_K k_K n_K hown hK hP hD hS 0 rfl rfl 1 (by decide) (hts _ (wg_t kw_375)) (fun _ h9 => h9) rfl (by decide +kernel) rfl rfl (Nat.le_of_ble_eq_true rfl) dK_keys_113 (fun H locs hP hD hS => ?_)
          have hP : va_P g.1 vcl ([(h0, .inr (0, [.ref kt, .int (nI 0), .ref ka, .int (nI al), .ref kp, .int (nI pn), .ref kks, .ref kds, .ref ksp, .ref kkm, .ref kda]))] ++ pl) _ := hP
          have hD : va_D _ ([(h0, .inr (0, [.ref kt, .int (nI 0), .ref ka, .int (nI al), .ref kp, .int (nI pn), .ref kks, .ref kds, .ref ksp, .ref kkm, .ref kda]))] ++ pl) := hD
          refine lv_aload_n hx hb dK_keys_116 rfl (lv_at hl 2 rfl) ?_
          refine va_new (ws := [(h0, .inr (0, [.ref kt, .int (nI 0), .ref ka, .int (nI al), .ref kp, .int (nI pn), .ref kks, .ref kds, .ref ksp, .ref kkm, .ref kda]))] ++ pl) (ci := 13) (fs := [.int 0, .null, .null]) (C := "LatticeKeys$KeyPair") (T := T_KP) (N := 3) hx hb hts (wg_ft i_KP) ty_KP k_KP hown (hts _ (wg_t kw_43)) (hts _ (wg_t kw_740)) (hts _ (wg_t kw_24)) hK hP hD hS hA rfl z_KP (Nat.le_of_ble_eq_true rfl) (Nat.le_of_ble_eq_true rfl) dK_keys_117 (fun q26 H hP hD hS => ?_)
          obtain ⟨hP, hD⟩ := mv_first hP hD
          have hP : va_P g.1 vcl ([(h0, .inr (0, [.ref kt, .int (nI 0), .ref ka, .int (nI al), .ref kp, .int (nI pn), .ref kks, .ref kds, .ref ksp, .ref kkm, .ref kda])), (q26, .inr (13, [.int 0, .null, .null]))] ++ pl) _ := hP
          have hD : va_D _ ([(h0, .inr (0, [.ref kt, .int (nI 0), .ref ka, .int (nI al), .ref kp, .int (nI pn), .ref kks, .ref kds, .ref ksp, .ref kkm, .ref kda])), (q26, .inr (13, [.int 0, .null, .null]))] ++ pl) := hD
          refine W.widen (k := 3) (n := 3587) (by omega) (by omega) ?_
          refine lv_dup hx hb dK_keys_120 rfl ?_
          refine lv_iload_n hx hb dK_keys_121 rfl (lv_at hl 3 rfl) ?_
          refine lv_aload_n hx hb dK_keys_122 rfl (lv_at hl 1 rfl) ?_
          refine lv_aload_n hx hb dK_keys_123 rfl (lv_at hl 0 rfl) ?_
          refine mp_v (cx := [(q26, .inr (13, [.int 0, .null, .null]))]) (wr := [(h0, .inr (0, [.ref kt, .int (nI 0), .ref ka, .int (nI al), .ref kp, .int (nI pn), .ref kks, .ref kds, .ref ksp, .ref kkm, .ref kda]))]) hP hD hS hA [1] [0] rfl rfl rfl (by decide) (va_runI (As := [.int (nI 1), .ref q24, .ref q25]) (rest := [.ref q26, .ref h0]) F (t_KP_init17 l g _ T  pl hO hU  (nI 1) q26 q24 q25) (cwI 3 hts (wg_in kw_743) rfl rfl rfl (hts _ (wg_t kw_24)) (hts _ (wg_t kw_741)) (hts _ (wg_t kw_742)) rfl (by decide +kernel) ⟨by decide, by decide⟩) (pp_S (en_ok g) hP hD hS hA hE [1] rfl rfl) rfl rfl hl.1 rfl (lv_room (Nat.le_of_ble_eq_true rfl)) dK_keys_124 ⟨Nat.le_of_ble_eq_true rfl, Nat.le_of_ble_eq_true rfl⟩) (fun  pl H locs hu32 hP hD hS => ?_)
          obtain ⟨hq32, hO⟩ := hu32
          have hP : va_P g.1 vcl ([(h0, .inr (0, [.ref kt, .int (nI 0), .ref ka, .int (nI al), .ref kp, .int (nI pn), .ref kks, .ref kds, .ref ksp, .ref kkm, .ref kda])), (q26, .inr (13, [.int (nI 1), .ref q24, .ref q25]))] ++ pl) _ := hP
          have hD : va_D _ ([(h0, .inr (0, [.ref kt, .int (nI 0), .ref ka, .int (nI al), .ref kp, .int (nI pn), .ref kks, .ref kds, .ref ksp, .ref kkm, .ref kda])), (q26, .inr (13, [.int (nI 1), .ref q24, .ref q25]))] ++ pl) := hD
          refine W.widen (k := 3) (n := 3587) (by omega) (by omega) ?_
          obtain ⟨hP, hD⟩ := mv_last (X := [(h0, .inr (0, [.ref kt, .int (nI 0), .ref ka, .int (nI al), .ref kp, .int (nI pn), .ref kks, .ref kds, .ref ksp, .ref kkm, .ref kda]))]) (c := (q26, .inr (13, [.int (nI 1), .ref q24, .ref q25]))) hP hD
          obtain ⟨T, pl, hxt26, hU, kr28, hO, hP, hD, hnk26⟩ := absorb (X := [(h0, .inr (0, [.ref kt, .int (nI 0), .ref ka, .int (nI al), .ref kp, .int (nI pn), .ref kks, .ref kds, .ref ksp, .ref kkm, .ref kda]))]) (17, 1) hP hD hO hU (Or.inl rfl) (fun T9 h9 _ => ⟨_, rfl, ⟨rfl, ⟨_, rfl, h9 _ _ kr25⟩, ⟨_, rfl, h9 _ _ kr26⟩, trivial⟩⟩)
          have k_kt := hxt26 _ _ k_kt
          have k_ka := hxt26 _ _ k_ka
          have k_kp := hxt26 _ _ k_kp
          have k_kks := hxt26 _ _ k_kks
          have k_kds := hxt26 _ _ k_kds
          have k_ksp := hxt26 _ _ k_ksp
          have k_kkm := hxt26 _ _ k_kkm
          have k_kda := hxt26 _ _ k_kda
          have kr25 := hxt26 _ _ kr25
          have kr26 := hxt26 _ _ kr26
          have kr27 := hxt26 _ _ kr27
          have hXT := ext_tr hXT hxt26
          have hP : va_P g.1 vcl ([(h0, .inr (0, [.ref kt, .int (nI 0), .ref ka, .int (nI al), .ref kp, .int (nI pn), .ref kks, .ref kds, .ref ksp, .ref kkm, .ref kda]))] ++ pl) _ := hP
          have hD : va_D _ ([(h0, .inr (0, [.ref kt, .int (nI 0), .ref ka, .int (nI al), .ref kp, .int (nI pn), .ref kks, .ref kds, .ref ksp, .ref kkm, .ref kda]))] ++ pl) := hD
          refine mp_i (cx := [(h0, .inr (0, [.ref kt, .int (nI 0), .ref ka, .int (nI al), .ref kp, .int (nI pn), .ref kks, .ref kds, .ref ksp, .ref kkm, .ref kda]))]) (wr := []) hP hD hS hA [0] [] rfl rfl rfl (by decide) (va_runV (As := [.ref q26]) (rest := []) F (t_K_keep17 l g _ T  pl hO hU  q26 1 h0 kt ka kp kks kds ksp kkm kda 0 al pn k_kt k_ka k_kp k_kks k_kds k_ksp k_kkm k_kda kr28 (by omega) (by omega) (by omega)) (cwV 1 hts (wg_app (wg_c kw_760 (wg_c kw_762 (wg_c ks_19 (wg_c kw_1 wg_n)))) kw_763) rfl rfl rfl (by decide +kernel) ⟨by decide, by decide⟩) (pp_V (en_ok g) (q0 := 0) hK hP hD hS hA hE [0] rfl rfl rfl rfl) rfl rfl hl.1 rfl (lv_room (Nat.le_of_ble_eq_true rfl)) dK_keys_127 ⟨Nat.le_of_ble_eq_true rfl, Nat.le_of_ble_eq_true rfl⟩) (fun r31 pl H locs hu33 hP hD hS => ?_)
          obtain ⟨hq33, hO⟩ := hu33
          have hP : va_P g.1 vcl ([(h0, .inr (0, [.ref kt, .int (nI 0), .ref ka, .int (nI al), .ref kp, .int (nI (pn + 1)), .ref kks, .ref kds, .ref ksp, .ref kkm, .ref kda]))] ++ pl) _ := hP
          have hD : va_D _ ([(h0, .inr (0, [.ref kt, .int (nI 0), .ref ka, .int (nI al), .ref kp, .int (nI (pn + 1)), .ref kks, .ref kds, .ref ksp, .ref kkm, .ref kda]))] ++ pl) := hD
          obtain rfl := hq33
          refine W.widen (k := 3) (n := 3587) (by omega) (by omega) ?_
          refine et_ret ?_
          exact mp_iret hx hb hr hlk hP hD hS ((T, 0, al, pn + 1), pl) ⟨⟨⟨(by show 0 ≤ 16384; omega), (by show al ≤ 8192; omega), (by show pn + 1 ≤ 8; omega), hXT, hU⟩, trivial⟩, hO⟩ [0] rfl rfl rfl (by omega) (by omega) dK_keys_130
        · exact et_throw (own := "LatticeKeys") (cls := "java/lang/IllegalStateException") (text := "no room for more keys") (names := ["java/lang/RuntimeException", "java/lang/Exception"]) (ik := 69) (is := 105) (ic := 73) hx hb htr ctr_ISE_0 ctr_ISE_1 ctr_ISE_2 ctr_ISE_5 hown (by decide) (by decide) (hts _ (wg_t kw_420)) (hts _ (wg_t kw_17)) (hX.2.2.2.2.2.1 4 ("LatticeKeys", 105, "no room for more keys") rfl) (hat_ISE hts hX.2) hS.1 (hl.1.trans hml.symm) dK_keys_37 dK_keys_40 dK_keys_41 dK_keys_43 dK_keys_46 htab (Nat.le_of_ble_eq_true rfl) (Nat.le_of_ble_eq_true rfl) (Nat.le_of_ble_eq_true rfl) (Nat.le_of_ble_eq_true rfl) hlk (Nat.le_of_ble_eq_true rfl) (Nat.le_of_ble_eq_true rfl) (List.mem_cons_of_mem _ List.mem_cons_self) hS.2.2 (thr_st hX.2) (fun t hz9 hk9 => ⟨⟨((T, tl, al, pn), pl), ⟨⟨⟨(by show tl ≤ 16384; omega), (by show al ≤ 8192; omega), (by show pn ≤ 8; omega), hXT, hU⟩, trivial⟩, hO⟩, lc_P hP hk9, hD⟩, (lc_S hS hz9 hk9).F rfl⟩)
      · exact et_throw (own := "LatticeKeys") (cls := "java/lang/IllegalArgumentException") (text := "no such set, or a seed of another length") (names := ["java/lang/RuntimeException", "java/lang/Exception"]) (ik := 79) (is := 103) (ic := 83) hx hb htr ctr_IAE_0 ctr_IAE_1 ctr_IAE_2 ctr_IAE_5 hown (by decide) (by decide) (hts _ (wg_t kw_501)) (hts _ (wg_t kw_18)) (hX.2.2.2.2.2.1 3 ("LatticeKeys", 103, "no such set, or a seed of another length") rfl) (hat_IAE hts hX.2) hS.1 (hl.1.trans hml.symm) dK_keys_18 dK_keys_21 dK_keys_22 dK_keys_24 dK_keys_27 htab (Nat.le_of_ble_eq_true rfl) (Nat.le_of_ble_eq_true rfl) (Nat.le_of_ble_eq_true rfl) (Nat.le_of_ble_eq_true rfl) hlk (Nat.le_of_ble_eq_true rfl) (Nat.le_of_ble_eq_true rfl) List.mem_cons_self hS.2.2 (thr_st hX.2) (fun t hz9 hk9 => ⟨⟨((T, tl, al, pn), pl), ⟨⟨⟨(by show tl ≤ 16384; omega), (by show al ≤ 8192; omega), (by show pn ≤ 8; omega), hXT, hU⟩, trivial⟩, hO⟩, lc_P hP hk9, hD⟩, (lc_S hS hz9 hk9).F rfl⟩)
    | 2, _ =>
      refine lv_if_eq (tgt := 18) hx hb dK_keys_4 (by decide) (fun h30 => absurd h30 (by decide)) (fun h30 => ?_)
      refine lv_aload_n hx hb dK_keys_7 rfl (lv_at hl 0 rfl) ?_
      refine va_get (D := g.1) (ci := 0) (C := "LatticeKeys") (T := T_K) (N := 11) hx hb hts (wg_ft i_K) hown hK hP 0 rfl rfl 1 (by decide) (hts _ (wg_t kw_375)) (fun _ h9 => h9) rfl dK_keys_8 ?_
      refine lv_iload_n hx hb dK_keys_11 rfl (lv_at hl 1 rfl) ?_
      refine mp_i (cx := []) (wr := [(h0, .inr (0, [.ref kt, .int (nI tl), .ref ka, .int (nI al), .ref kp, .int (nI pn), .ref kks, .ref kds, .ref ksp, .ref kkm, .ref kda]))]) hP hD hS hA [] [0] rfl rfl rfl (by decide) (va_runS (As := [.int (nI 2)]) (rest := [.int (nI tl)]) F (t_K_seedLength_2 l g _ T  pl hO hU  ) (va_cwS 1 hts (wg_app (wg_c kw_561 (wg_c kw_562 (wg_c kw_1 wg_n))) kw_563) rfl rfl rfl (by decide +kernel) ⟨by decide, by decide⟩) (pp_S (en_ok g) hP hD hS hA hE [] rfl rfl) rfl rfl hl.1 rfl (lv_room (Nat.le_of_ble_eq_true rfl)) dK_keys_12 ⟨Nat.le_of_ble_eq_true rfl, Nat.le_of_ble_eq_true rfl⟩) (fun r32 pl H locs hu34 hP hD hS => ?_)
      obtain ⟨hq34, hO⟩ := hu34
      have hP : va_P g.1 vcl ([(h0, .inr (0, [.ref kt, .int (nI tl), .ref ka, .int (nI al), .ref kp, .int (nI pn), .ref kks, .ref kds, .ref ksp, .ref kkm, .ref kda]))] ++ pl) _ := hP
      have hD : va_D _ ([(h0, .inr (0, [.ref kt, .int (nI tl), .ref ka, .int (nI al), .ref kp, .int (nI pn), .ref kks, .ref kds, .ref ksp, .ref kkm, .ref kda]))] ++ pl) := hD
      obtain rfl := hq34
      refine W.widen (k := 0) (n := 0) (by omega) (by omega) ?_
      refine mi_eq (tgt := 28) hx hb dK_keys_15 (by decide) (by omega) (by omega) (fun h31 => ?_) (fun h31 => ?_)
      · refine lv_aload_n hx hb dK_keys_28 rfl (lv_at hl 0 rfl) ?_
        refine va_get (D := g.1) (ci := 0) (C := "LatticeKeys") (T := T_K) (N := 11) hx hb hts (wg_ft i_K) hown hK hP 0 rfl rfl 5 (by decide) (hts _ (wg_t kw_379)) (fun _ h9 => h9) rfl dK_keys_29 ?_
        refine lv_bipush (v := nI 8) hx hb dK_keys_32 (by decide) ?_
        refine mi_lt (tgt := 47) hx hb dK_keys_34 (by decide) (by omega) (by omega) (fun h32 => ?_) (fun h32 => ?_)
        · refine lv_aload_n hx hb dK_keys_47 rfl (lv_at hl 0 rfl) ?_
          refine lv_iload_n hx hb dK_keys_48 rfl (lv_at hl 1 rfl) ?_
          refine mp_i (cx := [(h0, .inr (0, [.ref kt, .int (nI tl), .ref ka, .int (nI al), .ref kp, .int (nI pn), .ref kks, .ref kds, .ref ksp, .ref kkm, .ref kda]))]) (wr := []) hP hD hS hA [0] [] rfl rfl rfl (by decide) (va_runV (As := [.int (nI 2)]) (rest := []) F (t_K_publicLength_2 l g _ T  pl hO hU  h0 kt ka kp kks kds ksp kkm kda tl al pn k_kt k_ka k_kp k_kks k_kds k_ksp k_kkm k_kda (by omega)) (cwV 1 hts (wg_app (wg_c kw_566 (wg_c kw_568 (wg_c ks_2 (wg_c kw_1 wg_n)))) kw_569) rfl rfl rfl (by decide +kernel) ⟨by decide, by decide⟩) (pp_V (en_ok g) (q0 := 0) hK hP hD hS hA hE [0] rfl rfl rfl rfl) rfl rfl hl.1 rfl (lv_room (Nat.le_of_ble_eq_true rfl)) dK_keys_49 ⟨Nat.le_of_ble_eq_true rfl, Nat.le_of_ble_eq_true rfl⟩) (fun r33 pl H locs hu35 hP hD hS => ?_)
          obtain ⟨hq35, hO⟩ := hu35
          have hP : va_P g.1 vcl ([(h0, .inr (0, [.ref kt, .int (nI tl), .ref ka, .int (nI al), .ref kp, .int (nI pn), .ref kks, .ref kds, .ref ksp, .ref kkm, .ref kda]))] ++ pl) _ := hP
          have hD : va_D _ ([(h0, .inr (0, [.ref kt, .int (nI tl), .ref ka, .int (nI al), .ref kp, .int (nI pn), .ref kks, .ref kds, .ref ksp, .ref kkm, .ref kda]))] ++ pl) := hD
          obtain rfl := hq35
          refine W.widen (k := 0) (n := 0) (by omega) (by omega) ?_
          refine ma_newa (ws := [(h0, .inr (0, [.ref kt, .int (nI tl), .ref ka, .int (nI al), .ref kp, .int (nI pn), .ref kks, .ref kds, .ref ksp, .ref kkm, .ref kda]))] ++ pl) (atype := .byte) hx hb (hts _ (wg_t kw_72)) rfl hK hP hD hS hA 1 rfl (N' := 1568) (a0 := (1568, .inl (fun _ => 0))) (fun _ => rfl) (nI_pos (by omega)) (nI_clamp (by omega)) (by show (1568) * 1 ≤ 536870912; omega) (Nat.le_of_ble_eq_true rfl) (Nat.le_of_ble_eq_true rfl) dK_keys_52 (fun q27 H hP hD hS => ?_)
          refine W.widen (k := 1) (n := 1568) (by omega) (by omega) ?_
          obtain ⟨T, pl, hxt27, hU, kr29, hO, hP, hD, hnk27⟩ := absorb (X := [(h0, .inr (0, [.ref kt, .int (nI tl), .ref ka, .int (nI al), .ref kp, .int (nI pn), .ref kks, .ref kds, .ref ksp, .ref kkm, .ref kda]))]) (1, 1568) hP hD hO hU (Or.inl rfl) (fun _ _ _ => ⟨_, rfl, byt_0⟩)
          have k_kt := hxt27 _ _ k_kt
          have k_ka := hxt27 _ _ k_ka
          have k_kp := hxt27 _ _ k_kp
          have k_kks := hxt27 _ _ k_kks
          have k_kds := hxt27 _ _ k_kds
          have k_ksp := hxt27 _ _ k_ksp
          have k_kkm := hxt27 _ _ k_kkm
          have k_kda := hxt27 _ _ k_kda
          have hXT := ext_tr hXT hxt27
          have hP : va_P g.1 vcl ([(h0, .inr (0, [.ref kt, .int (nI tl), .ref ka, .int (nI al), .ref kp, .int (nI pn), .ref kks, .ref kds, .ref ksp, .ref kkm, .ref kda]))] ++ pl) _ := hP
          have hD : va_D _ ([(h0, .inr (0, [.ref kt, .int (nI tl), .ref ka, .int (nI al), .ref kp, .int (nI pn), .ref kks, .ref kds, .ref ksp, .ref kkm, .ref kda]))] ++ pl) := hD
          refine lv_astore_n (lv' := [(2, .ref q27), (0, .ref h0), (1, .int (nI 2))]) hx hb dK_keys_54 rfl hl (by decide) rfl (fun ls hl => ?_)
          refine lv_aload_n hx hb dK_keys_55 rfl (lv_at hl 1 rfl) ?_
          refine lv_iload_n hx hb dK_keys_56 rfl (lv_at hl 2 rfl) ?_
          refine mp_i (cx := [(h0, .inr (0, [.ref kt, .int (nI tl), .ref ka, .int (nI al), .ref kp, .int (nI pn), .ref kks, .ref kds, .ref ksp, .ref kkm, .ref kda]))]) (wr := []) hP hD hS hA [0] [] rfl rfl rfl (by decide) (va_runV (As := [.int (nI 2)]) (rest := []) F (t_K_secretLength_2 l g _ T  pl hO hU  h0 kt ka kp kks kds ksp kkm kda tl al pn k_kt k_ka k_kp k_kks k_kds k_ksp k_kkm k_kda (by omega)) (cwV 1 hts (wg_app (wg_c kw_570 (wg_c kw_572 (wg_c ks_3 (wg_c kw_1 wg_n)))) kw_573) rfl rfl rfl (by decide +kernel) ⟨by decide, by decide⟩) (pp_V (en_ok g) (q0 := 0) hK hP hD hS hA hE [0] rfl rfl rfl rfl) rfl rfl hl.1 rfl (lv_room (Nat.le_of_ble_eq_true rfl)) dK_keys_57 ⟨Nat.le_of_ble_eq_true rfl, Nat.le_of_ble_eq_true rfl⟩) (fun r34 pl H locs hu36 hP hD hS => ?_)
          obtain ⟨hq36, hO⟩ := hu36
          have hP : va_P g.1 vcl ([(h0, .inr (0, [.ref kt, .int (nI tl), .ref ka, .int (nI al), .ref kp, .int (nI pn), .ref kks, .ref kds, .ref ksp, .ref kkm, .ref kda]))] ++ pl) _ := hP
          have hD : va_D _ ([(h0, .inr (0, [.ref kt, .int (nI tl), .ref ka, .int (nI al), .ref kp, .int (nI pn), .ref kks, .ref kds, .ref ksp, .ref kkm, .ref kda]))] ++ pl) := hD
          obtain rfl := hq36
          refine W.widen (k := 1) (n := 1568) (by omega) (by omega) ?_
          refine ma_newa (ws := [(h0, .inr (0, [.ref kt, .int (nI tl), .ref ka, .int (nI al), .ref kp, .int (nI pn), .ref kks, .ref kds, .ref ksp, .ref kkm, .ref kda]))] ++ pl) (atype := .byte) hx hb (hts _ (wg_t kw_72)) rfl hK hP hD hS hA 1 rfl (N' := 3168) (a0 := (3168, .inl (fun _ => 0))) (fun _ => rfl) (nI_pos (by omega)) (nI_clamp (by omega)) (by show (3168) * 1 ≤ 536870912; omega) (Nat.le_of_ble_eq_true rfl) (Nat.le_of_ble_eq_true rfl) dK_keys_60 (fun q28 H hP hD hS => ?_)
          refine W.widen (k := 2) (n := 4736) (by omega) (by omega) ?_
          obtain ⟨T, pl, hxt28, hU, kr30, hO, hP, hD, hnk28⟩ := absorb (X := [(h0, .inr (0, [.ref kt, .int (nI tl), .ref ka, .int (nI al), .ref kp, .int (nI pn), .ref kks, .ref kds, .ref ksp, .ref kkm, .ref kda]))]) (1, 3168) hP hD hO hU (Or.inl rfl) (fun _ _ _ => ⟨_, rfl, byt_0⟩)
          have k_kt := hxt28 _ _ k_kt
          have k_ka := hxt28 _ _ k_ka
          have k_kp := hxt28 _ _ k_kp
          have k_kks := hxt28 _ _ k_kks
          have k_kds := hxt28 _ _ k_kds
          have k_ksp := hxt28 _ _ k_ksp
          have k_kkm := hxt28 _ _ k_kkm
          have k_kda := hxt28 _ _ k_kda
          have kr29 := hxt28 _ _ kr29
          have hXT := ext_tr hXT hxt28
          have hP : va_P g.1 vcl ([(h0, .inr (0, [.ref kt, .int (nI tl), .ref ka, .int (nI al), .ref kp, .int (nI pn), .ref kks, .ref kds, .ref ksp, .ref kkm, .ref kda]))] ++ pl) _ := hP
          have hD : va_D _ ([(h0, .inr (0, [.ref kt, .int (nI tl), .ref ka, .int (nI al), .ref kp, .int (nI pn), .ref kks, .ref kds, .ref ksp, .ref kkm, .ref kda]))] ++ pl) := hD
          refine lv_astore_n (lv' := [(3, .ref q28), (2, .ref q27), (0, .ref h0), (1, .int (nI 2))]) hx hb dK_keys_62 rfl hl (by decide) rfl (fun ls hl => ?_)
          refine lv_iload_n hx hb dK_keys_63 rfl (lv_at hl 3 rfl) ?_
          refine lv_iconst (v := nI 3) hx hb dK_keys_64 (by decide) ?_
          refine mi_ge (tgt := 90) hx hb dK_keys_65 (by decide) (by omega) (by omega) (fun h33 => absurd h33 (by omega)) (fun h33 => ?_)
          refine lv_aload_n hx hb dK_keys_68 rfl (lv_at hl 2 rfl) ?_
          refine va_get (D := g.1) (ci := 0) (C := "LatticeKeys") (T := T_K) (N := 11) hx hb hts (wg_ft i_K) hown hK hP 0 rfl rfl 9 (by decide) (hts _ (wg_t kw_383)) (fun _ h9 => h9) rfl dK_keys_69 ?_
          refine lv_aload_n hx hb dK_keys_72 rfl (lv_at hl 2 rfl) ?_
          refine va_get (D := g.1) (ci := 0) (C := "LatticeKeys") (T := T_K) (N := 11) hx hb hts (wg_ft i_K) hown hK hP 0 rfl rfl 6 (by decide) (hts _ (wg_t kw_380)) (fun _ h9 => h9) rfl dK_keys_73 ?_
          refine lv_iload_n hx hb dK_keys_76 rfl (lv_at hl 3 rfl) ?_
          refine ty_aald50 hx hb hK hO k_kks (nxg clo_nil k_kks rfl) hP (by omega) dK_keys_77 (fun r35 kr31 => ?_)
          refine lv_aload_n hx hb dK_keys_78 rfl (lv_at hl 2 rfl) ?_
          refine va_get (D := g.1) (ci := 0) (C := "LatticeKeys") (T := T_K) (N := 11) hx hb hts (wg_ft i_K) hown hK hP 0 rfl rfl 0 (by decide) (hts _ (wg_t kw_374)) (fun _ h9 => h9) rfl dK_keys_79 ?_
          refine lv_aload_n hx hb dK_keys_82 rfl (lv_at hl 1 rfl) ?_
          refine lv_aload_n hx hb dK_keys_83 rfl (lv_at hl 0 rfl) ?_
          refine mp_v (cx := []) (wr := [(h0, .inr (0, [.ref kt, .int (nI tl), .ref ka, .int (nI al), .ref kp, .int (nI pn), .ref kks, .ref kds, .ref ksp, .ref kkm, .ref kda]))]) hP hD hS hA [] [0] rfl rfl rfl (by decide) (va_runV (As := [.ref r35, .ref kt, .ref q27, .ref q28]) (rest := []) F (t_KM_makePair_2 l g _ T [] pl hO hU clo_nil clo_nil kkm r35 kt q27 q28 16384 k_kkm kr31 k_kt kr29 kr30 (by omega) (by omega)) (cwV 4 hts (wg_app (wg_c kw_574 (wg_c kw_575 (wg_c kw_576 (wg_c kw_3 wg_n)))) kw_577) rfl rfl rfl (by decide +kernel) ⟨by decide, by decide⟩) (pp_VT (en_ok g) (ci := 5) (kd := (13, 0)) hK hO k_kkm (nxg clo_nil k_kkm rfl) (fun _ h9 => ko1 h9) hP hD hS hA hE [] rfl rfl rfl) rfl rfl hl.1 rfl (lv_room (Nat.le_of_ble_eq_true rfl)) dK_keys_84 ⟨Nat.le_of_ble_eq_true rfl, Nat.le_of_ble_eq_true rfl⟩) (fun  pl H locs hu37 hP hD hS => ?_)
          obtain ⟨hq37, hO⟩ := hu37
          have hP : va_P g.1 vcl ([(h0, .inr (0, [.ref kt, .int (nI tl), .ref ka, .int (nI al), .ref kp, .int (nI pn), .ref kks, .ref kds, .ref ksp, .ref kkm, .ref kda]))] ++ pl) _ := hP
          have hD : va_D _ ([(h0, .inr (0, [.ref kt, .int (nI tl), .ref ka, .int (nI al), .ref kp, .int (nI pn), .ref kks, .ref kds, .ref ksp, .ref kkm, .ref kda]))] ++ pl) := hD
          refine W.widen (k := 2) (n := 4736) (by omega) (by omega) ?_
          refine lv_goto (tgt := 111) hx hb dK_keys_87 (by decide) ?_
          refine lv_aload_n hx hb dK_keys_111 rfl (lv_at hl 2 rfl) ?_
          refine lv_iconst (v := nI 0) hx hb dK_keys_112 (by decide) ?_
          refine va_put (D := g.1) (ci := 0) (v := .int (nI 0)) (ty := .int) (C := "LatticeKeys") (T := T_K) (N := 11) hx hb hts (wg_ft i_K) ty_K k_K n_K hown hK hP hD hS 0 rfl rfl 1 (by decide) (hts _ (wg_t kw_375)) (fun _ h9 => h9) rfl (by decide +kernel) rfl rfl (Nat.le_of_ble_eq_true rfl) dK_keys_113 (fun H locs hP hD hS => ?_)
          have hP : va_P g.1 vcl ([(h0, .inr (0, [.ref kt, .int (nI 0), .ref ka, .int (nI al), .ref kp, .int (nI pn), .ref kks, .ref kds, .ref ksp, .ref kkm, .ref kda]))] ++ pl) _ := hP
          have hD : va_D _ ([(h0, .inr (0, [.ref kt, .int (nI 0), .ref ka, .int (nI al), .ref kp, .int (nI pn), .ref kks, .ref kds, .ref ksp, .ref kkm, .ref kda]))] ++ pl) := hD
          refine lv_aload_n hx hb dK_keys_116 rfl (lv_at hl 2 rfl) ?_
          refine va_new (ws := [(h0, .inr (0, [.ref kt, .int (nI 0), .ref ka, .int (nI al), .ref kp, .int (nI pn), .ref kks, .ref kds, .ref ksp, .ref kkm, .ref kda]))] ++ pl) (ci := 13) (fs := [.int 0, .null, .null]) (C := "LatticeKeys$KeyPair") (T := T_KP) (N := 3) hx hb hts (wg_ft i_KP) ty_KP k_KP hown (hts _ (wg_t kw_43)) (hts _ (wg_t kw_740)) (hts _ (wg_t kw_24)) hK hP hD hS hA rfl z_KP (Nat.le_of_ble_eq_true rfl) (Nat.le_of_ble_eq_true rfl) dK_keys_117 (fun q29 H hP hD hS => ?_)
          obtain ⟨hP, hD⟩ := mv_first hP hD
          have hP : va_P g.1 vcl ([(h0, .inr (0, [.ref kt, .int (nI 0), .ref ka, .int (nI al), .ref kp, .int (nI pn), .ref kks, .ref kds, .ref ksp, .ref kkm, .ref kda])), (q29, .inr (13, [.int 0, .null, .null]))] ++ pl) _ := hP
          have hD : va_D _ ([(h0, .inr (0, [.ref kt, .int (nI 0), .ref ka, .int (nI al), .ref kp, .int (nI pn), .ref kks, .ref kds, .ref ksp, .ref kkm, .ref kda])), (q29, .inr (13, [.int 0, .null, .null]))] ++ pl) := hD
          refine W.widen (k := 3) (n := 4739) (by omega) (by omega) ?_
          refine lv_dup hx hb dK_keys_120 rfl ?_
          refine lv_iload_n hx hb dK_keys_121 rfl (lv_at hl 3 rfl) ?_
          refine lv_aload_n hx hb dK_keys_122 rfl (lv_at hl 1 rfl) ?_
          refine lv_aload_n hx hb dK_keys_123 rfl (lv_at hl 0 rfl) ?_
          refine mp_v (cx := [(q29, .inr (13, [.int 0, .null, .null]))]) (wr := [(h0, .inr (0, [.ref kt, .int (nI 0), .ref ka, .int (nI al), .ref kp, .int (nI pn), .ref kks, .ref kds, .ref ksp, .ref kkm, .ref kda]))]) hP hD hS hA [1] [0] rfl rfl rfl (by decide) (va_runI (As := [.int (nI 2), .ref q27, .ref q28]) (rest := [.ref q29, .ref h0]) F (t_KP_init17 l g _ T  pl hO hU  (nI 2) q29 q27 q28) (cwI 3 hts (wg_in kw_743) rfl rfl rfl (hts _ (wg_t kw_24)) (hts _ (wg_t kw_741)) (hts _ (wg_t kw_742)) rfl (by decide +kernel) ⟨by decide, by decide⟩) (pp_S (en_ok g) hP hD hS hA hE [1] rfl rfl) rfl rfl hl.1 rfl (lv_room (Nat.le_of_ble_eq_true rfl)) dK_keys_124 ⟨Nat.le_of_ble_eq_true rfl, Nat.le_of_ble_eq_true rfl⟩) (fun  pl H locs hu38 hP hD hS => ?_)
          obtain ⟨hq38, hO⟩ := hu38
          have hP : va_P g.1 vcl ([(h0, .inr (0, [.ref kt, .int (nI 0), .ref ka, .int (nI al), .ref kp, .int (nI pn), .ref kks, .ref kds, .ref ksp, .ref kkm, .ref kda])), (q29, .inr (13, [.int (nI 2), .ref q27, .ref q28]))] ++ pl) _ := hP
          have hD : va_D _ ([(h0, .inr (0, [.ref kt, .int (nI 0), .ref ka, .int (nI al), .ref kp, .int (nI pn), .ref kks, .ref kds, .ref ksp, .ref kkm, .ref kda])), (q29, .inr (13, [.int (nI 2), .ref q27, .ref q28]))] ++ pl) := hD
          refine W.widen (k := 3) (n := 4739) (by omega) (by omega) ?_
          obtain ⟨hP, hD⟩ := mv_last (X := [(h0, .inr (0, [.ref kt, .int (nI 0), .ref ka, .int (nI al), .ref kp, .int (nI pn), .ref kks, .ref kds, .ref ksp, .ref kkm, .ref kda]))]) (c := (q29, .inr (13, [.int (nI 2), .ref q27, .ref q28]))) hP hD
          obtain ⟨T, pl, hxt29, hU, kr32, hO, hP, hD, hnk29⟩ := absorb (X := [(h0, .inr (0, [.ref kt, .int (nI 0), .ref ka, .int (nI al), .ref kp, .int (nI pn), .ref kks, .ref kds, .ref ksp, .ref kkm, .ref kda]))]) (17, 2) hP hD hO hU (Or.inl rfl) (fun T9 h9 _ => ⟨_, rfl, ⟨rfl, ⟨_, rfl, h9 _ _ kr29⟩, ⟨_, rfl, h9 _ _ kr30⟩, trivial⟩⟩)
          have k_kt := hxt29 _ _ k_kt
          have k_ka := hxt29 _ _ k_ka
          have k_kp := hxt29 _ _ k_kp
          have k_kks := hxt29 _ _ k_kks
          have k_kds := hxt29 _ _ k_kds
          have k_ksp := hxt29 _ _ k_ksp
          have k_kkm := hxt29 _ _ k_kkm
          have k_kda := hxt29 _ _ k_kda
          have kr29 := hxt29 _ _ kr29
          have kr30 := hxt29 _ _ kr30
          have kr31 := hxt29 _ _ kr31
          have hXT := ext_tr hXT hxt29
          have hP : va_P g.1 vcl ([(h0, .inr (0, [.ref kt, .int (nI 0), .ref ka, .int (nI al), .ref kp, .int (nI pn), .ref kks, .ref kds, .ref ksp, .ref kkm, .ref kda]))] ++ pl) _ := hP
          have hD : va_D _ ([(h0, .inr (0, [.ref kt, .int (nI 0), .ref ka, .int (nI al), .ref kp, .int (nI pn), .ref kks, .ref kds, .ref ksp, .ref kkm, .ref kda]))] ++ pl) := hD
          refine mp_i (cx := [(h0, .inr (0, [.ref kt, .int (nI 0), .ref ka, .int (nI al), .ref kp, .int (nI pn), .ref kks, .ref kds, .ref ksp, .ref kkm, .ref kda]))]) (wr := []) hP hD hS hA [0] [] rfl rfl rfl (by decide) (va_runV (As := [.ref q29]) (rest := []) F (t_K_keep17 l g _ T  pl hO hU  q29 2 h0 kt ka kp kks kds ksp kkm kda 0 al pn k_kt k_ka k_kp k_kks k_kds k_ksp k_kkm k_kda kr32 (by omega) (by omega) (by omega)) (cwV 1 hts (wg_app (wg_c kw_760 (wg_c kw_762 (wg_c ks_19 (wg_c kw_1 wg_n)))) kw_763) rfl rfl rfl (by decide +kernel) ⟨by decide, by decide⟩) (pp_V (en_ok g) (q0 := 0) hK hP hD hS hA hE [0] rfl rfl rfl rfl) rfl rfl hl.1 rfl (lv_room (Nat.le_of_ble_eq_true rfl)) dK_keys_127 ⟨Nat.le_of_ble_eq_true rfl, Nat.le_of_ble_eq_true rfl⟩) (fun r36 pl H locs hu39 hP hD hS => ?_)
          obtain ⟨hq39, hO⟩ := hu39
          have hP : va_P g.1 vcl ([(h0, .inr (0, [.ref kt, .int (nI 0), .ref ka, .int (nI al), .ref kp, .int (nI (pn + 1)), .ref kks, .ref kds, .ref ksp, .ref kkm, .ref kda]))] ++ pl) _ := hP
          have hD : va_D _ ([(h0, .inr (0, [.ref kt, .int (nI 0), .ref ka, .int (nI al), .ref kp, .int (nI (pn + 1)), .ref kks, .ref kds, .ref ksp, .ref kkm, .ref kda]))] ++ pl) := hD
          obtain rfl := hq39
          refine W.widen (k := 3) (n := 4739) (by omega) (by omega) ?_
          refine et_ret ?_
          exact mp_iret hx hb hr hlk hP hD hS ((T, 0, al, pn + 1), pl) ⟨⟨⟨(by show 0 ≤ 16384; omega), (by show al ≤ 8192; omega), (by show pn + 1 ≤ 8; omega), hXT, hU⟩, trivial⟩, hO⟩ [0] rfl rfl rfl (by omega) (by omega) dK_keys_130
        · exact et_throw (own := "LatticeKeys") (cls := "java/lang/IllegalStateException") (text := "no room for more keys") (names := ["java/lang/RuntimeException", "java/lang/Exception"]) (ik := 69) (is := 105) (ic := 73) hx hb htr ctr_ISE_0 ctr_ISE_1 ctr_ISE_2 ctr_ISE_5 hown (by decide) (by decide) (hts _ (wg_t kw_420)) (hts _ (wg_t kw_17)) (hX.2.2.2.2.2.1 4 ("LatticeKeys", 105, "no room for more keys") rfl) (hat_ISE hts hX.2) hS.1 (hl.1.trans hml.symm) dK_keys_37 dK_keys_40 dK_keys_41 dK_keys_43 dK_keys_46 htab (Nat.le_of_ble_eq_true rfl) (Nat.le_of_ble_eq_true rfl) (Nat.le_of_ble_eq_true rfl) (Nat.le_of_ble_eq_true rfl) hlk (Nat.le_of_ble_eq_true rfl) (Nat.le_of_ble_eq_true rfl) (List.mem_cons_of_mem _ List.mem_cons_self) hS.2.2 (thr_st hX.2) (fun t hz9 hk9 => ⟨⟨((T, tl, al, pn), pl), ⟨⟨⟨(by show tl ≤ 16384; omega), (by show al ≤ 8192; omega), (by show pn ≤ 8; omega), hXT, hU⟩, trivial⟩, hO⟩, lc_P hP hk9, hD⟩, (lc_S hS hz9 hk9).F rfl⟩)
      · exact et_throw (own := "LatticeKeys") (cls := "java/lang/IllegalArgumentException") (text := "no such set, or a seed of another length") (names := ["java/lang/RuntimeException", "java/lang/Exception"]) (ik := 79) (is := 103) (ic := 83) hx hb htr ctr_IAE_0 ctr_IAE_1 ctr_IAE_2 ctr_IAE_5 hown (by decide) (by decide) (hts _ (wg_t kw_501)) (hts _ (wg_t kw_18)) (hX.2.2.2.2.2.1 3 ("LatticeKeys", 103, "no such set, or a seed of another length") rfl) (hat_IAE hts hX.2) hS.1 (hl.1.trans hml.symm) dK_keys_18 dK_keys_21 dK_keys_22 dK_keys_24 dK_keys_27 htab (Nat.le_of_ble_eq_true rfl) (Nat.le_of_ble_eq_true rfl) (Nat.le_of_ble_eq_true rfl) (Nat.le_of_ble_eq_true rfl) hlk (Nat.le_of_ble_eq_true rfl) (Nat.le_of_ble_eq_true rfl) List.mem_cons_self hS.2.2 (thr_st hX.2) (fun t hz9 hk9 => ⟨⟨((T, tl, al, pn), pl), ⟨⟨⟨(by show tl ≤ 16384; omega), (by show al ≤ 8192; omega), (by show pn ≤ 8; omega), hXT, hU⟩, trivial⟩, hO⟩, lc_P hP hk9, hD⟩, (lc_S hS hz9 hk9).F rfl⟩)
    | 3, _ =>
      refine lv_if_eq (tgt := 18) hx hb dK_keys_4 (by decide) (fun h34 => absurd h34 (by decide)) (fun h34 => ?_)
      refine lv_aload_n hx hb dK_keys_7 rfl (lv_at hl 0 rfl) ?_
      refine va_get (D := g.1) (ci := 0) (C := "LatticeKeys") (T := T_K) (N := 11) hx hb hts (wg_ft i_K) hown hK hP 0 rfl rfl 1 (by decide) (hts _ (wg_t kw_375)) (fun _ h9 => h9) rfl dK_keys_8 ?_
      refine lv_iload_n hx hb dK_keys_11 rfl (lv_at hl 1 rfl) ?_
      refine mp_i (cx := []) (wr := [(h0, .inr (0, [.ref kt, .int (nI tl), .ref ka, .int (nI al), .ref kp, .int (nI pn), .ref kks, .ref kds, .ref ksp, .ref kkm, .ref kda]))]) hP hD hS hA [] [0] rfl rfl rfl (by decide) (va_runS (As := [.int (nI 3)]) (rest := [.int (nI tl)]) F (t_K_seedLength_3 l g _ T  pl hO hU  ) (va_cwS 1 hts (wg_app (wg_c kw_561 (wg_c kw_562 (wg_c kw_1 wg_n))) kw_563) rfl rfl rfl (by decide +kernel) ⟨by decide, by decide⟩) (pp_S (en_ok g) hP hD hS hA hE [] rfl rfl) rfl rfl hl.1 rfl (lv_room (Nat.le_of_ble_eq_true rfl)) dK_keys_12 ⟨Nat.le_of_ble_eq_true rfl, Nat.le_of_ble_eq_true rfl⟩) (fun r37 pl H locs hu40 hP hD hS => ?_)
      obtain ⟨hq40, hO⟩ := hu40
      have hP : va_P g.1 vcl ([(h0, .inr (0, [.ref kt, .int (nI tl), .ref ka, .int (nI al), .ref kp, .int (nI pn), .ref kks, .ref kds, .ref ksp, .ref kkm, .ref kda]))] ++ pl) _ := hP
      have hD : va_D _ ([(h0, .inr (0, [.ref kt, .int (nI tl), .ref ka, .int (nI al), .ref kp, .int (nI pn), .ref kks, .ref kds, .ref ksp, .ref kkm, .ref kda]))] ++ pl) := hD
      obtain rfl := hq40
      refine W.widen (k := 0) (n := 0) (by omega) (by omega) ?_
      refine mi_eq (tgt := 28) hx hb dK_keys_15 (by decide) (by omega) (by omega) (fun h35 => ?_) (fun h35 => ?_)
      · refine lv_aload_n hx hb dK_keys_28 rfl (lv_at hl 0 rfl) ?_
        refine va_get (D := g.1) (ci := 0) (C := "LatticeKeys") (T := T_K) (N := 11) hx hb hts (wg_ft i_K) hown hK hP 0 rfl rfl 5 (by decide) (hts _ (wg_t kw_379)) (fun _ h9 => h9) rfl dK_keys_29 ?_
        refine lv_bipush (v := nI 8) hx hb dK_keys_32 (by decide) ?_
        refine mi_lt (tgt := 47) hx hb dK_keys_34 (by decide) (by omega) (by omega) (fun h36 => ?_) (fun h36 => ?_)
        · refine lv_aload_n hx hb dK_keys_47 rfl (lv_at hl 0 rfl) ?_
          refine lv_iload_n hx hb dK_keys_48 rfl (lv_at hl 1 rfl) ?_
          refine mp_i (cx := [(h0, .inr (0, [.ref kt, .int (nI tl), .ref ka, .int (nI al), .ref kp, .int (nI pn), .ref kks, .ref kds, .ref ksp, .ref kkm, .ref kda]))]) (wr := []) hP hD hS hA [0] [] rfl rfl rfl (by decide) (va_runV (As := [.int (nI 3)]) (rest := []) F (t_K_publicLength_3 l g _ T  pl hO hU  h0 kt ka kp kks kds ksp kkm kda tl al pn k_kt k_ka k_kp k_kks k_kds k_ksp k_kkm k_kda (by omega)) (cwV 1 hts (wg_app (wg_c kw_566 (wg_c kw_568 (wg_c ks_2 (wg_c kw_1 wg_n)))) kw_569) rfl rfl rfl (by decide +kernel) ⟨by decide, by decide⟩) (pp_V (en_ok g) (q0 := 0) hK hP hD hS hA hE [0] rfl rfl rfl rfl) rfl rfl hl.1 rfl (lv_room (Nat.le_of_ble_eq_true rfl)) dK_keys_49 ⟨Nat.le_of_ble_eq_true rfl, Nat.le_of_ble_eq_true rfl⟩) (fun r38 pl H locs hu41 hP hD hS => ?_)
          obtain ⟨hq41, hO⟩ := hu41
          have hP : va_P g.1 vcl ([(h0, .inr (0, [.ref kt, .int (nI tl), .ref ka, .int (nI al), .ref kp, .int (nI pn), .ref kks, .ref kds, .ref ksp, .ref kkm, .ref kda]))] ++ pl) _ := hP
          have hD : va_D _ ([(h0, .inr (0, [.ref kt, .int (nI tl), .ref ka, .int (nI al), .ref kp, .int (nI pn), .ref kks, .ref kds, .ref ksp, .ref kkm, .ref kda]))] ++ pl) := hD
          obtain rfl := hq41
          refine W.widen (k := 0) (n := 0) (by omega) (by omega) ?_
          refine ma_newa (ws := [(h0, .inr (0, [.ref kt, .int (nI tl), .ref ka, .int (nI al), .ref kp, .int (nI pn), .ref kks, .ref kds, .ref ksp, .ref kkm, .ref kda]))] ++ pl) (atype := .byte) hx hb (hts _ (wg_t kw_72)) rfl hK hP hD hS hA 1 rfl (N' := 1312) (a0 := (1312, .inl (fun _ => 0))) (fun _ => rfl) (nI_pos (by omega)) (nI_clamp (by omega)) (by show (1312) * 1 ≤ 536870912; omega) (Nat.le_of_ble_eq_true rfl) (Nat.le_of_ble_eq_true rfl) dK_keys_52 (fun q30 H hP hD hS => ?_)
          refine W.widen (k := 1) (n := 1312) (by omega) (by omega) ?_
          obtain ⟨T, pl, hxt30, hU, kr33, hO, hP, hD, hnk30⟩ := absorb (X := [(h0, .inr (0, [.ref kt, .int (nI tl), .ref ka, .int (nI al), .ref kp, .int (nI pn), .ref kks, .ref kds, .ref ksp, .ref kkm, .ref kda]))]) (1, 1312) hP hD hO hU (Or.inl rfl) (fun _ _ _ => ⟨_, rfl, byt_0⟩)
          have k_kt := hxt30 _ _ k_kt
          have k_ka := hxt30 _ _ k_ka
          have k_kp := hxt30 _ _ k_kp
          have k_kks := hxt30 _ _ k_kks
          have k_kds := hxt30 _ _ k_kds
          have k_ksp := hxt30 _ _ k_ksp
          have k_kkm := hxt30 _ _ k_kkm
          have k_kda := hxt30 _ _ k_kda
          have hXT := ext_tr hXT hxt30
          have hP : va_P g.1 vcl ([(h0, .inr (0, [.ref kt, .int (nI tl), .ref ka, .int (nI al), .ref kp, .int (nI pn), .ref kks, .ref kds, .ref ksp, .ref kkm, .ref kda]))] ++ pl) _ := hP
          have hD : va_D _ ([(h0, .inr (0, [.ref kt, .int (nI tl), .ref ka, .int (nI al), .ref kp, .int (nI pn), .ref kks, .ref kds, .ref ksp, .ref kkm, .ref kda]))] ++ pl) := hD
          refine lv_astore_n (lv' := [(2, .ref q30), (0, .ref h0), (1, .int (nI 3))]) hx hb dK_keys_54 rfl hl (by decide) rfl (fun ls hl => ?_)
          refine lv_aload_n hx hb dK_keys_55 rfl (lv_at hl 1 rfl) ?_
          refine lv_iload_n hx hb dK_keys_56 rfl (lv_at hl 2 rfl) ?_
          refine mp_i (cx := [(h0, .inr (0, [.ref kt, .int (nI tl), .ref ka, .int (nI al), .ref kp, .int (nI pn), .ref kks, .ref kds, .ref ksp, .ref kkm, .ref kda]))]) (wr := []) hP hD hS hA [0] [] rfl rfl rfl (by decide) (va_runV (As := [.int (nI 3)]) (rest := []) F (t_K_secretLength_3 l g _ T  pl hO hU  h0 kt ka kp kks kds ksp kkm kda tl al pn k_kt k_ka k_kp k_kks k_kds k_ksp k_kkm k_kda (by omega)) (cwV 1 hts (wg_app (wg_c kw_570 (wg_c kw_572 (wg_c ks_3 (wg_c kw_1 wg_n)))) kw_573) rfl rfl rfl (by decide +kernel) ⟨by decide, by decide⟩) (pp_V (en_ok g) (q0 := 0) hK hP hD hS hA hE [0] rfl rfl rfl rfl) rfl rfl hl.1 rfl (lv_room (Nat.le_of_ble_eq_true rfl)) dK_keys_57 ⟨Nat.le_of_ble_eq_true rfl, Nat.le_of_ble_eq_true rfl⟩) (fun r39 pl H locs hu42 hP hD hS => ?_)
          obtain ⟨hq42, hO⟩ := hu42
          have hP : va_P g.1 vcl ([(h0, .inr (0, [.ref kt, .int (nI tl), .ref ka, .int (nI al), .ref kp, .int (nI pn), .ref kks, .ref kds, .ref ksp, .ref kkm, .ref kda]))] ++ pl) _ := hP
          have hD : va_D _ ([(h0, .inr (0, [.ref kt, .int (nI tl), .ref ka, .int (nI al), .ref kp, .int (nI pn), .ref kks, .ref kds, .ref ksp, .ref kkm, .ref kda]))] ++ pl) := hD
          obtain rfl := hq42
          refine W.widen (k := 1) (n := 1312) (by omega) (by omega) ?_
          refine ma_newa (ws := [(h0, .inr (0, [.ref kt, .int (nI tl), .ref ka, .int (nI al), .ref kp, .int (nI pn), .ref kks, .ref kds, .ref ksp, .ref kkm, .ref kda]))] ++ pl) (atype := .byte) hx hb (hts _ (wg_t kw_72)) rfl hK hP hD hS hA 1 rfl (N' := 2560) (a0 := (2560, .inl (fun _ => 0))) (fun _ => rfl) (nI_pos (by omega)) (nI_clamp (by omega)) (by show (2560) * 1 ≤ 536870912; omega) (Nat.le_of_ble_eq_true rfl) (Nat.le_of_ble_eq_true rfl) dK_keys_60 (fun q31 H hP hD hS => ?_)
          refine W.widen (k := 2) (n := 3872) (by omega) (by omega) ?_
          obtain ⟨T, pl, hxt31, hU, kr34, hO, hP, hD, hnk31⟩ := absorb (X := [(h0, .inr (0, [.ref kt, .int (nI tl), .ref ka, .int (nI al), .ref kp, .int (nI pn), .ref kks, .ref kds, .ref ksp, .ref kkm, .ref kda]))]) (1, 2560) hP hD hO hU (Or.inl rfl) (fun _ _ _ => ⟨_, rfl, byt_0⟩)
          have k_kt := hxt31 _ _ k_kt
          have k_ka := hxt31 _ _ k_ka
          have k_kp := hxt31 _ _ k_kp
          have k_kks := hxt31 _ _ k_kks
          have k_kds := hxt31 _ _ k_kds
          have k_ksp := hxt31 _ _ k_ksp
          have k_kkm := hxt31 _ _ k_kkm
          have k_kda := hxt31 _ _ k_kda
          have kr33 := hxt31 _ _ kr33
          have hXT := ext_tr hXT hxt31
          have hP : va_P g.1 vcl ([(h0, .inr (0, [.ref kt, .int (nI tl), .ref ka, .int (nI al), .ref kp, .int (nI pn), .ref kks, .ref kds, .ref ksp, .ref kkm, .ref kda]))] ++ pl) _ := hP
          have hD : va_D _ ([(h0, .inr (0, [.ref kt, .int (nI tl), .ref ka, .int (nI al), .ref kp, .int (nI pn), .ref kks, .ref kds, .ref ksp, .ref kkm, .ref kda]))] ++ pl) := hD
          refine lv_astore_n (lv' := [(3, .ref q31), (2, .ref q30), (0, .ref h0), (1, .int (nI 3))]) hx hb dK_keys_62 rfl hl (by decide) rfl (fun ls hl => ?_)
          refine lv_iload_n hx hb dK_keys_63 rfl (lv_at hl 3 rfl) ?_
          refine lv_iconst (v := nI 3) hx hb dK_keys_64 (by decide) ?_
          refine mi_ge (tgt := 90) hx hb dK_keys_65 (by decide) (by omega) (by omega) (fun h37 => ?_) (fun h37 => absurd h37 (by omega))
          refine lv_aload_n hx hb dK_keys_90 rfl (lv_at hl 2 rfl) ?_
          refine va_get (D := g.1) (ci := 0) (C := "LatticeKeys") (T := T_K) (N := 11) hx hb hts (wg_ft i_K) hown hK hP 0 rfl rfl 10 (by decide) (hts _ (wg_t kw_384)) (fun _ h9 => h9) rfl dK_keys_91 ?_
          refine lv_aload_n hx hb dK_keys_94 rfl (lv_at hl 2 rfl) ?_
          refine va_get (D := g.1) (ci := 0) (C := "LatticeKeys") (T := T_K) (N := 11) hx hb hts (wg_ft i_K) hown hK hP 0 rfl rfl 7 (by decide) (hts _ (wg_t kw_381)) (fun _ h9 => h9) rfl dK_keys_95 ?_
          refine lv_iload_n hx hb dK_keys_98 rfl (lv_at hl 3 rfl) ?_
          refine lv_iconst (v := nI 3) hx hb dK_keys_99 (by decide) ?_
          refine mi_isub hx hb dK_keys_100 (by omega) ?_
          refine mi_as (show nI (3 - 3) = nI 0 from rfl) ?_
          refine ty_aald51 hx hb hK hO k_kds (nxg clo_nil k_kds rfl) hP (by omega) dK_keys_101 (fun r40 kr35 => ?_)
          refine lv_aload_n hx hb dK_keys_102 rfl (lv_at hl 2 rfl) ?_
          refine va_get (D := g.1) (ci := 0) (C := "LatticeKeys") (T := T_K) (N := 11) hx hb hts (wg_ft i_K) hown hK hP 0 rfl rfl 0 (by decide) (hts _ (wg_t kw_374)) (fun _ h9 => h9) rfl dK_keys_103 ?_
          refine lv_aload_n hx hb dK_keys_106 rfl (lv_at hl 1 rfl) ?_
          refine lv_aload_n hx hb dK_keys_107 rfl (lv_at hl 0 rfl) ?_
          refine mp_v (cx := []) (wr := [(h0, .inr (0, [.ref kt, .int (nI tl), .ref ka, .int (nI al), .ref kp, .int (nI pn), .ref kks, .ref kds, .ref ksp, .ref kkm, .ref kda]))]) hP hD hS hA [] [0] rfl rfl rfl (by decide) (va_runV (As := [.ref r40, .ref kt, .ref q30, .ref q31]) (rest := []) F (t_DA_makePair_0 l g _ T [] pl hO hU clo_nil clo_nil clo_nil kda r40 kt q30 q31 16384 k_kda kr35 k_kt kr33 kr34 (by omega) (by omega)) (cwV 4 hts (wg_app (wg_c kw_665 (wg_c kw_666 (wg_c kw_667 (wg_c kw_5 wg_n)))) kw_668) rfl rfl rfl (by decide +kernel) ⟨by decide, by decide⟩) (pp_VT (en_ok g) (ci := 6) (kd := (15, 0)) hK hO k_kda (nxg clo_nil k_kda rfl) (fun _ h9 => ko1 h9) hP hD hS hA hE [] rfl rfl rfl) rfl rfl hl.1 rfl (lv_room (Nat.le_of_ble_eq_true rfl)) dK_keys_108 ⟨Nat.le_of_ble_eq_true rfl, Nat.le_of_ble_eq_true rfl⟩) (fun  pl H locs hu43 hP hD hS => ?_)
          obtain ⟨hq43, hO⟩ := hu43
          have hP : va_P g.1 vcl ([(h0, .inr (0, [.ref kt, .int (nI tl), .ref ka, .int (nI al), .ref kp, .int (nI pn), .ref kks, .ref kds, .ref ksp, .ref kkm, .ref kda]))] ++ pl) _ := hP
          have hD : va_D _ ([(h0, .inr (0, [.ref kt, .int (nI tl), .ref ka, .int (nI al), .ref kp, .int (nI pn), .ref kks, .ref kds, .ref ksp, .ref kkm, .ref kda]))] ++ pl) := hD
          refine W.widen (k := 2) (n := 3872) (by omega) (by omega) ?_
          refine lv_aload_n hx hb dK_keys_111 rfl (lv_at hl 2 rfl) ?_
          refine lv_iconst (v := nI 0) hx hb dK_keys_112 (by decide) ?_
          refine va_put (D := g.1) (ci := 0) (v := .int (nI 0)) (ty := .int) (C := "LatticeKeys") (T := T_K) (N := 11) hx hb hts (wg_ft i_K) ty_K k_K n_K hown hK hP hD hS 0 rfl rfl 1 (by decide) (hts _ (wg_t kw_375)) (fun _ h9 => h9) rfl (by decide +kernel) rfl rfl (Nat.le_of_ble_eq_true rfl) dK_keys_113 (fun H locs hP hD hS => ?_)
          have hP : va_P g.1 vcl ([(h0, .inr (0, [.ref kt, .int (nI 0), .ref ka, .int (nI al), .ref kp, .int (nI pn), .ref kks, .ref kds, .ref ksp, .ref kkm, .ref kda]))] ++ pl) _ := hP
          have hD : va_D _ ([(h0, .inr (0, [.ref kt, .int (nI 0), .ref ka, .int (nI al), .ref kp, .int (nI pn), .ref kks, .ref kds, .ref ksp, .ref kkm, .ref kda]))] ++ pl) := hD
          refine lv_aload_n hx hb dK_keys_116 rfl (lv_at hl 2 rfl) ?_
          refine va_new (ws := [(h0, .inr (0, [.ref kt, .int (nI 0), .ref ka, .int (nI al), .ref kp, .int (nI pn), .ref kks, .ref kds, .ref ksp, .ref kkm, .ref kda]))] ++ pl) (ci := 13) (fs := [.int 0, .null, .null]) (C := "LatticeKeys$KeyPair") (T := T_KP) (N := 3) hx hb hts (wg_ft i_KP) ty_KP k_KP hown (hts _ (wg_t kw_43)) (hts _ (wg_t kw_740)) (hts _ (wg_t kw_24)) hK hP hD hS hA rfl z_KP (Nat.le_of_ble_eq_true rfl) (Nat.le_of_ble_eq_true rfl) dK_keys_117 (fun q32 H hP hD hS => ?_)
          obtain ⟨hP, hD⟩ := mv_first hP hD
          have hP : va_P g.1 vcl ([(h0, .inr (0, [.ref kt, .int (nI 0), .ref ka, .int (nI al), .ref kp, .int (nI pn), .ref kks, .ref kds, .ref ksp, .ref kkm, .ref kda])), (q32, .inr (13, [.int 0, .null, .null]))] ++ pl) _ := hP
          have hD : va_D _ ([(h0, .inr (0, [.ref kt, .int (nI 0), .ref ka, .int (nI al), .ref kp, .int (nI pn), .ref kks, .ref kds, .ref ksp, .ref kkm, .ref kda])), (q32, .inr (13, [.int 0, .null, .null]))] ++ pl) := hD
          refine W.widen (k := 3) (n := 3875) (by omega) (by omega) ?_
          refine lv_dup hx hb dK_keys_120 rfl ?_
          refine lv_iload_n hx hb dK_keys_121 rfl (lv_at hl 3 rfl) ?_
          refine lv_aload_n hx hb dK_keys_122 rfl (lv_at hl 1 rfl) ?_
          refine lv_aload_n hx hb dK_keys_123 rfl (lv_at hl 0 rfl) ?_
          refine mp_v (cx := [(q32, .inr (13, [.int 0, .null, .null]))]) (wr := [(h0, .inr (0, [.ref kt, .int (nI 0), .ref ka, .int (nI al), .ref kp, .int (nI pn), .ref kks, .ref kds, .ref ksp, .ref kkm, .ref kda]))]) hP hD hS hA [1] [0] rfl rfl rfl (by decide) (va_runI (As := [.int (nI 3), .ref q30, .ref q31]) (rest := [.ref q32, .ref h0]) F (t_KP_init17 l g _ T  pl hO hU  (nI 3) q32 q30 q31) (cwI 3 hts (wg_in kw_743) rfl rfl rfl (hts _ (wg_t kw_24)) (hts _ (wg_t kw_741)) (hts _ (wg_t kw_742)) rfl (by decide +kernel) ⟨by decide, by decide⟩) (pp_S (en_ok g) hP hD hS hA hE [1] rfl rfl) rfl rfl hl.1 rfl (lv_room (Nat.le_of_ble_eq_true rfl)) dK_keys_124 ⟨Nat.le_of_ble_eq_true rfl, Nat.le_of_ble_eq_true rfl⟩) (fun  pl H locs hu44 hP hD hS => ?_)
          obtain ⟨hq44, hO⟩ := hu44
          have hP : va_P g.1 vcl ([(h0, .inr (0, [.ref kt, .int (nI 0), .ref ka, .int (nI al), .ref kp, .int (nI pn), .ref kks, .ref kds, .ref ksp, .ref kkm, .ref kda])), (q32, .inr (13, [.int (nI 3), .ref q30, .ref q31]))] ++ pl) _ := hP
          have hD : va_D _ ([(h0, .inr (0, [.ref kt, .int (nI 0), .ref ka, .int (nI al), .ref kp, .int (nI pn), .ref kks, .ref kds, .ref ksp, .ref kkm, .ref kda])), (q32, .inr (13, [.int (nI 3), .ref q30, .ref q31]))] ++ pl) := hD
          refine W.widen (k := 3) (n := 3875) (by omega) (by omega) ?_
          obtain ⟨hP, hD⟩ := mv_last (X := [(h0, .inr (0, [.ref kt, .int (nI 0), .ref ka, .int (nI al), .ref kp, .int (nI pn), .ref kks, .ref kds, .ref ksp, .ref kkm, .ref kda]))]) (c := (q32, .inr (13, [.int (nI 3), .ref q30, .ref q31]))) hP hD
          obtain ⟨T, pl, hxt32, hU, kr36, hO, hP, hD, hnk32⟩ := absorb (X := [(h0, .inr (0, [.ref kt, .int (nI 0), .ref ka, .int (nI al), .ref kp, .int (nI pn), .ref kks, .ref kds, .ref ksp, .ref kkm, .ref kda]))]) (17, 3) hP hD hO hU (Or.inl rfl) (fun T9 h9 _ => ⟨_, rfl, ⟨rfl, ⟨_, rfl, h9 _ _ kr33⟩, ⟨_, rfl, h9 _ _ kr34⟩, trivial⟩⟩)
          have k_kt := hxt32 _ _ k_kt
          have k_ka := hxt32 _ _ k_ka
          have k_kp := hxt32 _ _ k_kp
          have k_kks := hxt32 _ _ k_kks
          have k_kds := hxt32 _ _ k_kds
          have k_ksp := hxt32 _ _ k_ksp
          have k_kkm := hxt32 _ _ k_kkm
          have k_kda := hxt32 _ _ k_kda
          have kr33 := hxt32 _ _ kr33
          have kr34 := hxt32 _ _ kr34
          have kr35 := hxt32 _ _ kr35
          have hXT := ext_tr hXT hxt32
          have hP : va_P g.1 vcl ([(h0, .inr (0, [.ref kt, .int (nI 0), .ref ka, .int (nI al), .ref kp, .int (nI pn), .ref kks, .ref kds, .ref ksp, .ref kkm, .ref kda]))] ++ pl) _ := hP
          have hD : va_D _ ([(h0, .inr (0, [.ref kt, .int (nI 0), .ref ka, .int (nI al), .ref kp, .int (nI pn), .ref kks, .ref kds, .ref ksp, .ref kkm, .ref kda]))] ++ pl) := hD
          refine mp_i (cx := [(h0, .inr (0, [.ref kt, .int (nI 0), .ref ka, .int (nI al), .ref kp, .int (nI pn), .ref kks, .ref kds, .ref ksp, .ref kkm, .ref kda]))]) (wr := []) hP hD hS hA [0] [] rfl rfl rfl (by decide) (va_runV (As := [.ref q32]) (rest := []) F (t_K_keep17 l g _ T  pl hO hU  q32 3 h0 kt ka kp kks kds ksp kkm kda 0 al pn k_kt k_ka k_kp k_kks k_kds k_ksp k_kkm k_kda kr36 (by omega) (by omega) (by omega)) (cwV 1 hts (wg_app (wg_c kw_760 (wg_c kw_762 (wg_c ks_19 (wg_c kw_1 wg_n)))) kw_763) rfl rfl rfl (by decide +kernel) ⟨by decide, by decide⟩) (pp_V (en_ok g) (q0 := 0) hK hP hD hS hA hE [0] rfl rfl rfl rfl) rfl rfl hl.1 rfl (lv_room (Nat.le_of_ble_eq_true rfl)) dK_keys_127 ⟨Nat.le_of_ble_eq_true rfl, Nat.le_of_ble_eq_true rfl⟩) (fun r41 pl H locs hu45 hP hD hS => ?_)
          obtain ⟨hq45, hO⟩ := hu45
          have hP : va_P g.1 vcl ([(h0, .inr (0, [.ref kt, .int (nI 0), .ref ka, .int (nI al), .ref kp, .int (nI (pn + 1)), .ref kks, .ref kds, .ref ksp, .ref kkm, .ref kda]))] ++ pl) _ := hP
          have hD : va_D _ ([(h0, .inr (0, [.ref kt, .int (nI 0), .ref ka, .int (nI al), .ref kp, .int (nI (pn + 1)), .ref kks, .ref kds, .ref ksp, .ref kkm, .ref kda]))] ++ pl) := hD
          obtain rfl := hq45
          refine W.widen (k := 3) (n := 3875) (by omega) (by omega) ?_
          refine et_ret ?_
          exact mp_iret hx hb hr hlk hP hD hS ((T, 0, al, pn + 1), pl) ⟨⟨⟨(by show 0 ≤ 16384; omega), (by show al ≤ 8192; omega), (by show pn + 1 ≤ 8; omega), hXT, hU⟩, trivial⟩, hO⟩ [0] rfl rfl rfl (by omega) (by omega) dK_keys_130
        · exact et_throw (own := "LatticeKeys") (cls := "java/lang/IllegalStateException") (text := "no room for more keys") (names := ["java/lang/RuntimeException", "java/lang/Exception"]) (ik := 69) (is := 105) (ic := 73) hx hb htr ctr_ISE_0 ctr_ISE_1 ctr_ISE_2 ctr_ISE_5 hown (by decide) (by decide) (hts _ (wg_t kw_420)) (hts _ (wg_t kw_17)) (hX.2.2.2.2.2.1 4 ("LatticeKeys", 105, "no room for more keys") rfl) (hat_ISE hts hX.2) hS.1 (hl.1.trans hml.symm) dK_keys_37 dK_keys_40 dK_keys_41 dK_keys_43 dK_keys_46 htab (Nat.le_of_ble_eq_true rfl) (Nat.le_of_ble_eq_true rfl) (Nat.le_of_ble_eq_true rfl) (Nat.le_of_ble_eq_true rfl) hlk (Nat.le_of_ble_eq_true rfl) (Nat.le_of_ble_eq_true rfl) (List.mem_cons_of_mem _ List.mem_cons_self) hS.2.2 (thr_st hX.2) (fun t hz9 hk9 => ⟨⟨((T, tl, al, pn), pl), ⟨⟨⟨(by show tl ≤ 16384; omega), (by show al ≤ 8192; omega), (by show pn ≤ 8; omega), hXT, hU⟩, trivial⟩, hO⟩, lc_P hP hk9, hD⟩, (lc_S hS hz9 hk9).F rfl⟩)
      · exact et_throw (own := "LatticeKeys") (cls := "java/lang/IllegalArgumentException") (text := "no such set, or a seed of another length") (names := ["java/lang/RuntimeException", "java/lang/Exception"]) (ik := 79) (is := 103) (ic := 83) hx hb htr ctr_IAE_0 ctr_IAE_1 ctr_IAE_2 ctr_IAE_5 hown (by decide) (by decide) (hts _ (wg_t kw_501)) (hts _ (wg_t kw_18)) (hX.2.2.2.2.2.1 3 ("LatticeKeys", 103, "no such set, or a seed of another length") rfl) (hat_IAE hts hX.2) hS.1 (hl.1.trans hml.symm) dK_keys_18 dK_keys_21 dK_keys_22 dK_keys_24 dK_keys_27 htab (Nat.le_of_ble_eq_true rfl) (Nat.le_of_ble_eq_true rfl) (Nat.le_of_ble_eq_true rfl) (Nat.le_of_ble_eq_true rfl) hlk (Nat.le_of_ble_eq_true rfl) (Nat.le_of_ble_eq_true rfl) List.mem_cons_self hS.2.2 (thr_st hX.2) (fun t hz9 hk9 => ⟨⟨((T, tl, al, pn), pl), ⟨⟨⟨(by show tl ≤ 16384; omega), (by show al ≤ 8192; omega), (by show pn ≤ 8; omega), hXT, hU⟩, trivial⟩, hO⟩, lc_P hP hk9, hD⟩, (lc_S hS hz9 hk9).F rfl⟩)
    | 4, _ =>
      refine lv_if_eq (tgt := 18) hx hb dK_keys_4 (by decide) (fun h38 => absurd h38 (by decide)) (fun h38 => ?_)
      refine lv_aload_n hx hb dK_keys_7 rfl (lv_at hl 0 rfl) ?_
      refine va_get (D := g.1) (ci := 0) (C := "LatticeKeys") (T := T_K) (N := 11) hx hb hts (wg_ft i_K) hown hK hP 0 rfl rfl 1 (by decide) (hts _ (wg_t kw_375)) (fun _ h9 => h9) rfl dK_keys_8 ?_
      refine lv_iload_n hx hb dK_keys_11 rfl (lv_at hl 1 rfl) ?_
      refine mp_i (cx := []) (wr := [(h0, .inr (0, [.ref kt, .int (nI tl), .ref ka, .int (nI al), .ref kp, .int (nI pn), .ref kks, .ref kds, .ref ksp, .ref kkm, .ref kda]))]) hP hD hS hA [] [0] rfl rfl rfl (by decide) (va_runS (As := [.int (nI 4)]) (rest := [.int (nI tl)]) F (t_K_seedLength_4 l g _ T  pl hO hU  ) (va_cwS 1 hts (wg_app (wg_c kw_561 (wg_c kw_562 (wg_c kw_1 wg_n))) kw_563) rfl rfl rfl (by decide +kernel) ⟨by decide, by decide⟩) (pp_S (en_ok g) hP hD hS hA hE [] rfl rfl) rfl rfl hl.1 rfl (lv_room (Nat.le_of_ble_eq_true rfl)) dK_keys_12 ⟨Nat.le_of_ble_eq_true rfl, Nat.le_of_ble_eq_true rfl⟩) (fun r42 pl H locs hu46 hP hD hS => ?_)
      obtain ⟨hq46, hO⟩ := hu46
      have hP : va_P g.1 vcl ([(h0, .inr (0, [.ref kt, .int (nI tl), .ref ka, .int (nI al), .ref kp, .int (nI pn), .ref kks, .ref kds, .ref ksp, .ref kkm, .ref kda]))] ++ pl) _ := hP
      have hD : va_D _ ([(h0, .inr (0, [.ref kt, .int (nI tl), .ref ka, .int (nI al), .ref kp, .int (nI pn), .ref kks, .ref kds, .ref ksp, .ref kkm, .ref kda]))] ++ pl) := hD
      obtain rfl := hq46
      refine W.widen (k := 0) (n := 0) (by omega) (by omega) ?_
      refine mi_eq (tgt := 28) hx hb dK_keys_15 (by decide) (by omega) (by omega) (fun h39 => ?_) (fun h39 => ?_)
      · refine lv_aload_n hx hb dK_keys_28 rfl (lv_at hl 0 rfl) ?_
        refine va_get (D := g.1) (ci := 0) (C := "LatticeKeys") (T := T_K) (N := 11) hx hb hts (wg_ft i_K) hown hK hP 0 rfl rfl 5 (by decide) (hts _ (wg_t kw_379)) (fun _ h9 => h9) rfl dK_keys_29 ?_
        refine lv_bipush (v := nI 8) hx hb dK_keys_32 (by decide) ?_
        refine mi_lt (tgt := 47) hx hb dK_keys_34 (by decide) (by omega) (by omega) (fun h40 => ?_) (fun h40 => ?_)
        · refine lv_aload_n hx hb dK_keys_47 rfl (lv_at hl 0 rfl) ?_
          refine lv_iload_n hx hb dK_keys_48 rfl (lv_at hl 1 rfl) ?_
          refine mp_i (cx := [(h0, .inr (0, [.ref kt, .int (nI tl), .ref ka, .int (nI al), .ref kp, .int (nI pn), .ref kks, .ref kds, .ref ksp, .ref kkm, .ref kda]))]) (wr := []) hP hD hS hA [0] [] rfl rfl rfl (by decide) (va_runV (As := [.int (nI 4)]) (rest := []) F (t_K_publicLength_4 l g _ T  pl hO hU  h0 kt ka kp kks kds ksp kkm kda tl al pn k_kt k_ka k_kp k_kks k_kds k_ksp k_kkm k_kda (by omega)) (cwV 1 hts (wg_app (wg_c kw_566 (wg_c kw_568 (wg_c ks_2 (wg_c kw_1 wg_n)))) kw_569) rfl rfl rfl (by decide +kernel) ⟨by decide, by decide⟩) (pp_V (en_ok g) (q0 := 0) hK hP hD hS hA hE [0] rfl rfl rfl rfl) rfl rfl hl.1 rfl (lv_room (Nat.le_of_ble_eq_true rfl)) dK_keys_49 ⟨Nat.le_of_ble_eq_true rfl, Nat.le_of_ble_eq_true rfl⟩) (fun r43 pl H locs hu47 hP hD hS => ?_)
          obtain ⟨hq47, hO⟩ := hu47
          have hP : va_P g.1 vcl ([(h0, .inr (0, [.ref kt, .int (nI tl), .ref ka, .int (nI al), .ref kp, .int (nI pn), .ref kks, .ref kds, .ref ksp, .ref kkm, .ref kda]))] ++ pl) _ := hP
          have hD : va_D _ ([(h0, .inr (0, [.ref kt, .int (nI tl), .ref ka, .int (nI al), .ref kp, .int (nI pn), .ref kks, .ref kds, .ref ksp, .ref kkm, .ref kda]))] ++ pl) := hD
          obtain rfl := hq47
          refine W.widen (k := 0) (n := 0) (by omega) (by omega) ?_
          refine ma_newa (ws := [(h0, .inr (0, [.ref kt, .int (nI tl), .ref ka, .int (nI al), .ref kp, .int (nI pn), .ref kks, .ref kds, .ref ksp, .ref kkm, .ref kda]))] ++ pl) (atype := .byte) hx hb (hts _ (wg_t kw_72)) rfl hK hP hD hS hA 1 rfl (N' := 1952) (a0 := (1952, .inl (fun _ => 0))) (fun _ => rfl) (nI_pos (by omega)) (nI_clamp (by omega)) (by show (1952) * 1 ≤ 536870912; omega) (Nat.le_of_ble_eq_true rfl) (Nat.le_of_ble_eq_true rfl) dK_keys_52 (fun q33 H hP hD hS => ?_)
          refine W.widen (k := 1) (n := 1952) (by omega) (by omega) ?_
          obtain ⟨T, pl, hxt33, hU, kr37, hO, hP, hD, hnk33⟩ := absorb (X := [(h0, .inr (0, [.ref kt, .int (nI tl), .ref ka, .int (nI al), .ref kp, .int (nI pn), .ref kks, .ref kds, .ref ksp, .ref kkm, .ref kda]))]) (1, 1952) hP hD hO hU (Or.inl rfl) (fun _ _ _ => ⟨_, rfl, byt_0⟩)
          have k_kt := hxt33 _ _ k_kt
          have k_ka := hxt33 _ _ k_ka
          have k_kp := hxt33 _ _ k_kp
          have k_kks := hxt33 _ _ k_kks
          have k_kds := hxt33 _ _ k_kds
          have k_ksp := hxt33 _ _ k_ksp
          have k_kkm := hxt33 _ _ k_kkm
          have k_kda := hxt33 _ _ k_kda
          have hXT := ext_tr hXT hxt33
          have hP : va_P g.1 vcl ([(h0, .inr (0, [.ref kt, .int (nI tl), .ref ka, .int (nI al), .ref kp, .int (nI pn), .ref kks, .ref kds, .ref ksp, .ref kkm, .ref kda]))] ++ pl) _ := hP
          have hD : va_D _ ([(h0, .inr (0, [.ref kt, .int (nI tl), .ref ka, .int (nI al), .ref kp, .int (nI pn), .ref kks, .ref kds, .ref ksp, .ref kkm, .ref kda]))] ++ pl) := hD
          refine lv_astore_n (lv' := [(2, .ref q33), (0, .ref h0), (1, .int (nI 4))]) hx hb dK_keys_54 rfl hl (by decide) rfl (fun ls hl => ?_)
          refine lv_aload_n hx hb dK_keys_55 rfl (lv_at hl 1 rfl) ?_
          refine lv_iload_n hx hb dK_keys_56 rfl (lv_at hl 2 rfl) ?_
          refine mp_i (cx := [(h0, .inr (0, [.ref kt, .int (nI tl), .ref ka, .int (nI al), .ref kp, .int (nI pn), .ref kks, .ref kds, .ref ksp, .ref kkm, .ref kda]))]) (wr := []) hP hD hS hA [0] [] rfl rfl rfl (by decide) (va_runV (As := [.int (nI 4)]) (rest := []) F (t_K_secretLength_4 l g _ T  pl hO hU  h0 kt ka kp kks kds ksp kkm kda tl al pn k_kt k_ka k_kp k_kks k_kds k_ksp k_kkm k_kda (by omega)) (cwV 1 hts (wg_app (wg_c kw_570 (wg_c kw_572 (wg_c ks_3 (wg_c kw_1 wg_n)))) kw_573) rfl rfl rfl (by decide +kernel) ⟨by decide, by decide⟩) (pp_V (en_ok g) (q0 := 0) hK hP hD hS hA hE [0] rfl rfl rfl rfl) rfl rfl hl.1 rfl (lv_room (Nat.le_of_ble_eq_true rfl)) dK_keys_57 ⟨Nat.le_of_ble_eq_true rfl, Nat.le_of_ble_eq_true rfl⟩) (fun r44 pl H locs hu48 hP hD hS => ?_)
          obtain ⟨hq48, hO⟩ := hu48
          have hP : va_P g.1 vcl ([(h0, .inr (0, [.ref kt, .int (nI tl), .ref ka, .int (nI al), .ref kp, .int (nI pn), .ref kks, .ref kds, .ref ksp, .ref kkm, .ref kda]))] ++ pl) _ := hP
          have hD : va_D _ ([(h0, .inr (0, [.ref kt, .int (nI tl), .ref ka, .int (nI al), .ref kp, .int (nI pn), .ref kks, .ref kds, .ref ksp, .ref kkm, .ref kda]))] ++ pl) := hD
          obtain rfl := hq48
          refine W.widen (k := 1) (n := 1952) (by omega) (by omega) ?_
          refine ma_newa (ws := [(h0, .inr (0, [.ref kt, .int (nI tl), .ref ka, .int (nI al), .ref kp, .int (nI pn), .ref kks, .ref kds, .ref ksp, .ref kkm, .ref kda]))] ++ pl) (atype := .byte) hx hb (hts _ (wg_t kw_72)) rfl hK hP hD hS hA 1 rfl (N' := 4032) (a0 := (4032, .inl (fun _ => 0))) (fun _ => rfl) (nI_pos (by omega)) (nI_clamp (by omega)) (by show (4032) * 1 ≤ 536870912; omega) (Nat.le_of_ble_eq_true rfl) (Nat.le_of_ble_eq_true rfl) dK_keys_60 (fun q34 H hP hD hS => ?_)
          refine W.widen (k := 2) (n := 5984) (by omega) (by omega) ?_
          obtain ⟨T, pl, hxt34, hU, kr38, hO, hP, hD, hnk34⟩ := absorb (X := [(h0, .inr (0, [.ref kt, .int (nI tl), .ref ka, .int (nI al), .ref kp, .int (nI pn), .ref kks, .ref kds, .ref ksp, .ref kkm, .ref kda]))]) (1, 4032) hP hD hO hU (Or.inl rfl) (fun _ _ _ => ⟨_, rfl, byt_0⟩)
          have k_kt := hxt34 _ _ k_kt
          have k_ka := hxt34 _ _ k_ka
          have k_kp := hxt34 _ _ k_kp
          have k_kks := hxt34 _ _ k_kks
          have k_kds := hxt34 _ _ k_kds
          have k_ksp := hxt34 _ _ k_ksp
          have k_kkm := hxt34 _ _ k_kkm
          have k_kda := hxt34 _ _ k_kda
          have kr37 := hxt34 _ _ kr37
          have hXT := ext_tr hXT hxt34
          have hP : va_P g.1 vcl ([(h0, .inr (0, [.ref kt, .int (nI tl), .ref ka, .int (nI al), .ref kp, .int (nI pn), .ref kks, .ref kds, .ref ksp, .ref kkm, .ref kda]))] ++ pl) _ := hP
          have hD : va_D _ ([(h0, .inr (0, [.ref kt, .int (nI tl), .ref ka, .int (nI al), .ref kp, .int (nI pn), .ref kks, .ref kds, .ref ksp, .ref kkm, .ref kda]))] ++ pl) := hD
          refine lv_astore_n (lv' := [(3, .ref q34), (2, .ref q33), (0, .ref h0), (1, .int (nI 4))]) hx hb dK_keys_62 rfl hl (by decide) rfl (fun ls hl => ?_)
          refine lv_iload_n hx hb dK_keys_63 rfl (lv_at hl 3 rfl) ?_
          refine lv_iconst (v := nI 3) hx hb dK_keys_64 (by decide) ?_
          refine mi_ge (tgt := 90) hx hb dK_keys_65 (by decide) (by omega) (by omega) (fun h41 => ?_) (fun h41 => absurd h41 (by omega))
          refine lv_aload_n hx hb dK_keys_90 rfl (lv_at hl 2 rfl) ?_
          refine va_get (D := g.1) (ci := 0) (C := "LatticeKeys") (T := T_K) (N := 11) hx hb hts (wg_ft i_K) hown hK hP 0 rfl rfl 10 (by decide) (hts _ (wg_t kw_384)) (fun _ h9 => h9) rfl dK_keys_91 ?_
          refine lv_aload_n hx hb dK_keys_94 rfl (lv_at hl 2 rfl) ?_
          refine va_get (D := g.1) (ci := 0) (C := "LatticeKeys") (T := T_K) (N := 11) hx hb hts (wg_ft i_K) hown hK hP 0 rfl rfl 7 (by decide) (hts _ (wg_t kw_381)) (fun _ h9 => h9) rfl dK_keys_95 ?_
          refine lv_iload_n hx hb dK_keys_98 rfl (lv_at hl 3 rfl) ?_
          refine lv_iconst (v := nI 3) hx hb dK_keys_99 (by decide) ?_
          refine mi_isub hx hb dK_keys_100 (by omega) ?_
          refine mi_as (show nI (4 - 3) = nI 1 from rfl) ?_
          refine ty_aald51 hx hb hK hO k_kds (nxg clo_nil k_kds rfl) hP (by omega) dK_keys_101 (fun r45 kr39 => ?_)
          refine lv_aload_n hx hb dK_keys_102 rfl (lv_at hl 2 rfl) ?_
          refine va_get (D := g.1) (ci := 0) (C := "LatticeKeys") (T := T_K) (N := 11) hx hb hts (wg_ft i_K) hown hK hP 0 rfl rfl 0 (by decide) (hts _ (wg_t kw_374)) (fun _ h9 => h9) rfl dK_keys_103 ?_
          refine lv_aload_n hx hb dK_keys_106 rfl (lv_at hl 1 rfl) ?_
          refine lv_aload_n hx hb dK_keys_107 rfl (lv_at hl 0 rfl) ?_
          refine mp_v (cx := []) (wr := [(h0, .inr (0, [.ref kt, .int (nI tl), .ref ka, .int (nI al), .ref kp, .int (nI pn), .ref kks, .ref kds, .ref ksp, .ref kkm, .ref kda]))]) hP hD hS hA [] [0] rfl rfl rfl (by decide) (va_runV (As := [.ref r45, .ref kt, .ref q33, .ref q34]) (rest := []) F (t_DA_makePair_1 l g _ T [] pl hO hU clo_nil clo_nil clo_nil kda r45 kt q33 q34 16384 k_kda kr39 k_kt kr37 kr38 (by omega) (by omega)) (cwV 4 hts (wg_app (wg_c kw_665 (wg_c kw_666 (wg_c kw_667 (wg_c kw_5 wg_n)))) kw_668) rfl rfl rfl (by decide +kernel) ⟨by decide, by decide⟩) (pp_VT (en_ok g) (ci := 6) (kd := (15, 0)) hK hO k_kda (nxg clo_nil k_kda rfl) (fun _ h9 => ko1 h9) hP hD hS hA hE [] rfl rfl rfl) rfl rfl hl.1 rfl (lv_room (Nat.le_of_ble_eq_true rfl)) dK_keys_108 ⟨Nat.le_of_ble_eq_true rfl, Nat.le_of_ble_eq_true rfl⟩) (fun  pl H locs hu49 hP hD hS => ?_)
          obtain ⟨hq49, hO⟩ := hu49
          have hP : va_P g.1 vcl ([(h0, .inr (0, [.ref kt, .int (nI tl), .ref ka, .int (nI al), .ref kp, .int (nI pn), .ref kks, .ref kds, .ref ksp, .ref kkm, .ref kda]))] ++ pl) _ := hP
          have hD : va_D _ ([(h0, .inr (0, [.ref kt, .int (nI tl), .ref ka, .int (nI al), .ref kp, .int (nI pn), .ref kks, .ref kds, .ref ksp, .ref kkm, .ref kda]))] ++ pl) := hD
          refine W.widen (k := 2) (n := 5984) (by omega) (by omega) ?_
          refine lv_aload_n hx hb dK_keys_111 rfl (lv_at hl 2 rfl) ?_
          refine lv_iconst (v := nI 0) hx hb dK_keys_112 (by decide) ?_
          refine va_put (D := g.1) (ci := 0) (v := .int (nI 0)) (ty := .int) (C := "LatticeKeys") (T := T_K) (N := 11) hx hb hts (wg_ft i_K) ty_K k_K n_K hown hK hP hD hS 0 rfl rfl 1 (by decide) (hts _ (wg_t kw_375)) (fun _ h9 => h9) rfl (by decide +kernel) rfl rfl (Nat.le_of_ble_eq_true rfl) dK_keys_113 (fun H locs hP hD hS => ?_)
          have hP : va_P g.1 vcl ([(h0, .inr (0, [.ref kt, .int (nI 0), .ref ka, .int (nI al), .ref kp, .int (nI pn), .ref kks, .ref kds, .ref ksp, .ref kkm, .ref kda]))] ++ pl) _ := hP
          have hD : va_D _ ([(h0, .inr (0, [.ref kt, .int (nI 0), .ref ka, .int (nI al), .ref kp, .int (nI pn), .ref kks, .ref kds, .ref ksp, .ref kkm, .ref kda]))] ++ pl) := hD
          refine lv_aload_n hx hb dK_keys_116 rfl (lv_at hl 2 rfl) ?_
          refine va_new (ws := [(h0, .inr (0, [.ref kt, .int (nI 0), .ref ka, .int (nI al), .ref kp, .int (nI pn), .ref kks, .ref kds, .ref ksp, .ref kkm, .ref kda]))] ++ pl) (ci := 13) (fs := [.int 0, .null, .null]) (C := "LatticeKeys$KeyPair") (T := T_KP) (N := 3) hx hb hts (wg_ft i_KP) ty_KP k_KP hown (hts _ (wg_t kw_43)) (hts _ (wg_t kw_740)) (hts _ (wg_t kw_24)) hK hP hD hS hA rfl z_KP (Nat.le_of_ble_eq_true rfl) (Nat.le_of_ble_eq_true rfl) dK_keys_117 (fun q35 H hP hD hS => ?_)
          obtain ⟨hP, hD⟩ := mv_first hP hD
          have hP : va_P g.1 vcl ([(h0, .inr (0, [.ref kt, .int (nI 0), .ref ka, .int (nI al), .ref kp, .int (nI pn), .ref kks, .ref kds, .ref ksp, .ref kkm, .ref kda])), (q35, .inr (13, [.int 0, .null, .null]))] ++ pl) _ := hP
          have hD : va_D _ ([(h0, .inr (0, [.ref kt, .int (nI 0), .ref ka, .int (nI al), .ref kp, .int (nI pn), .ref kks, .ref kds, .ref ksp, .ref kkm, .ref kda])), (q35, .inr (13, [.int 0, .null, .null]))] ++ pl) := hD
          refine W.widen (k := 3) (n := 5987) (by omega) (by omega) ?_
          refine lv_dup hx hb dK_keys_120 rfl ?_
          refine lv_iload_n hx hb dK_keys_121 rfl (lv_at hl 3 rfl) ?_
          refine lv_aload_n hx hb dK_keys_122 rfl (lv_at hl 1 rfl) ?_
          refine lv_aload_n hx hb dK_keys_123 rfl (lv_at hl 0 rfl) ?_
          refine mp_v (cx := [(q35, .inr (13, [.int 0, .null, .null]))]) (wr := [(h0, .inr (0, [.ref kt, .int (nI 0), .ref ka, .int (nI al), .ref kp, .int (nI pn), .ref kks, .ref kds, .ref ksp, .ref kkm, .ref kda]))]) hP hD hS hA [1] [0] rfl rfl rfl (by decide) (va_runI (As := [.int (nI 4), .ref q33, .ref q34]) (rest := [.ref q35, .ref h0]) F (t_KP_init17 l g _ T  pl hO hU  (nI 4) q35 q33 q34) (cwI 3 hts (wg_in kw_743) rfl rfl rfl (hts _ (wg_t kw_24)) (hts _ (wg_t kw_741)) (hts _ (wg_t kw_742)) rfl (by decide +kernel) ⟨by decide, by decide⟩) (pp_S (en_ok g) hP hD hS hA hE [1] rfl rfl) rfl rfl hl.1 rfl (lv_room (Nat.le_of_ble_eq_true rfl)) dK_keys_124 ⟨Nat.le_of_ble_eq_true rfl, Nat.le_of_ble_eq_true rfl⟩) (fun  pl H locs hu50 hP hD hS => ?_)
          obtain ⟨hq50, hO⟩ := hu50
          have hP : va_P g.1 vcl ([(h0, .inr (0, [.ref kt, .int (nI 0), .ref ka, .int (nI al), .ref kp, .int (nI pn), .ref kks, .ref kds, .ref ksp, .ref kkm, .ref kda])), (q35, .inr (13, [.int (nI 4), .ref q33, .ref q34]))] ++ pl) _ := hP
          have hD : va_D _ ([(h0, .inr (0, [.ref kt, .int (nI 0), .ref ka, .int (nI al), .ref kp, .int (nI pn), .ref kks, .ref kds, .ref ksp, .ref kkm, .ref kda])), (q35, .inr (13, [.int (nI 4), .ref q33, .ref q34]))] ++ pl) := hD
          refine W.widen (k := 3) (n := 5987) (by omega) (by omega) ?_
          obtain ⟨hP, hD⟩ := mv_last (X := [(h0, .inr (0, [.ref kt, .int (nI 0), .ref ka, .int (nI al), .ref kp, .int (nI pn), .ref kks, .ref kds, .ref ksp, .ref kkm, .ref kda]))]) (c := (q35, .inr (13, [.int (nI 4), .ref q33, .ref q34]))) hP hD
          obtain ⟨T, pl, hxt35, hU, kr40, hO, hP, hD, hnk35⟩ := absorb (X := [(h0, .inr (0, [.ref kt, .int (nI 0), .ref ka, .int (nI al), .ref kp, .int (nI pn), .ref kks, .ref kds, .ref ksp, .ref kkm, .ref kda]))]) (17, 4) hP hD hO hU (Or.inl rfl) (fun T9 h9 _ => ⟨_, rfl, ⟨rfl, ⟨_, rfl, h9 _ _ kr37⟩, ⟨_, rfl, h9 _ _ kr38⟩, trivial⟩⟩)
          have k_kt := hxt35 _ _ k_kt
          have k_ka := hxt35 _ _ k_ka
          have k_kp := hxt35 _ _ k_kp
          have k_kks := hxt35 _ _ k_kks
          have k_kds := hxt35 _ _ k_kds
          have k_ksp := hxt35 _ _ k_ksp
          have k_kkm := hxt35 _ _ k_kkm
          have k_kda := hxt35 _ _ k_kda
          have kr37 := hxt35 _ _ kr37
          have kr38 := hxt35 _ _ kr38
          have kr39 := hxt35 _ _ kr39
          have hXT := ext_tr hXT hxt35
          have hP : va_P g.1 vcl ([(h0, .inr (0, [.ref kt, .int (nI 0), .ref ka, .int (nI al), .ref kp, .int (nI pn), .ref kks, .ref kds, .ref ksp, .ref kkm, .ref kda]))] ++ pl) _ := hP
          have hD : va_D _ ([(h0, .inr (0, [.ref kt, .int (nI 0), .ref ka, .int (nI al), .ref kp, .int (nI pn), .ref kks, .ref kds, .ref ksp, .ref kkm, .ref kda]))] ++ pl) := hD
          refine mp_i (cx := [(h0, .inr (0, [.ref kt, .int (nI 0), .ref ka, .int (nI al), .ref kp, .int (nI pn), .ref kks, .ref kds, .ref ksp, .ref kkm, .ref kda]))]) (wr := []) hP hD hS hA [0] [] rfl rfl rfl (by decide) (va_runV (As := [.ref q35]) (rest := []) F (t_K_keep17 l g _ T  pl hO hU  q35 4 h0 kt ka kp kks kds ksp kkm kda 0 al pn k_kt k_ka k_kp k_kks k_kds k_ksp k_kkm k_kda kr40 (by omega) (by omega) (by omega)) (cwV 1 hts (wg_app (wg_c kw_760 (wg_c kw_762 (wg_c ks_19 (wg_c kw_1 wg_n)))) kw_763) rfl rfl rfl (by decide +kernel) ⟨by decide, by decide⟩) (pp_V (en_ok g) (q0 := 0) hK hP hD hS hA hE [0] rfl rfl rfl rfl) rfl rfl hl.1 rfl (lv_room (Nat.le_of_ble_eq_true rfl)) dK_keys_127 ⟨Nat.le_of_ble_eq_true rfl, Nat.le_of_ble_eq_true rfl⟩) (fun r46 pl H locs hu51 hP hD hS => ?_)
          obtain ⟨hq51, hO⟩ := hu51
          have hP : va_P g.1 vcl ([(h0, .inr (0, [.ref kt, .int (nI 0), .ref ka, .int (nI al), .ref kp, .int (nI (pn + 1)), .ref kks, .ref kds, .ref ksp, .ref kkm, .ref kda]))] ++ pl) _ := hP
          have hD : va_D _ ([(h0, .inr (0, [.ref kt, .int (nI 0), .ref ka, .int (nI al), .ref kp, .int (nI (pn + 1)), .ref kks, .ref kds, .ref ksp, .ref kkm, .ref kda]))] ++ pl) := hD
          obtain rfl := hq51
          refine W.widen (k := 3) (n := 5987) (by omega) (by omega) ?_
          refine et_ret ?_
          exact mp_iret hx hb hr hlk hP hD hS ((T, 0, al, pn + 1), pl) ⟨⟨⟨(by show 0 ≤ 16384; omega), (by show al ≤ 8192; omega), (by show pn + 1 ≤ 8; omega), hXT, hU⟩, trivial⟩, hO⟩ [0] rfl rfl rfl (by omega) (by omega) dK_keys_130
        · exact et_throw (own := "LatticeKeys") (cls := "java/lang/IllegalStateException") (text := "no room for more keys") (names := ["java/lang/RuntimeException", "java/lang/Exception"]) (ik := 69) (is := 105) (ic := 73) hx hb htr ctr_ISE_0 ctr_ISE_1 ctr_ISE_2 ctr_ISE_5 hown (by decide) (by decide) (hts _ (wg_t kw_420)) (hts _ (wg_t kw_17)) (hX.2.2.2.2.2.1 4 ("LatticeKeys", 105, "no room for more keys") rfl) (hat_ISE hts hX.2) hS.1 (hl.1.trans hml.symm) dK_keys_37 dK_keys_40 dK_keys_41 dK_keys_43 dK_keys_46 htab (Nat.le_of_ble_eq_true rfl) (Nat.le_of_ble_eq_true rfl) (Nat.le_of_ble_eq_true rfl) (Nat.le_of_ble_eq_true rfl) hlk (Nat.le_of_ble_eq_true rfl) (Nat.le_of_ble_eq_true rfl) (List.mem_cons_of_mem _ List.mem_cons_self) hS.2.2 (thr_st hX.2) (fun t hz9 hk9 => ⟨⟨((T, tl, al, pn), pl), ⟨⟨⟨(by show tl ≤ 16384; omega), (by show al ≤ 8192; omega), (by show pn ≤ 8; omega), hXT, hU⟩, trivial⟩, hO⟩, lc_P hP hk9, hD⟩, (lc_S hS hz9 hk9).F rfl⟩)
      · exact et_throw (own := "LatticeKeys") (cls := "java/lang/IllegalArgumentException") (text := "no such set, or a seed of another length") (names := ["java/lang/RuntimeException", "java/lang/Exception"]) (ik := 79) (is := 103) (ic := 83) hx hb htr ctr_IAE_0 ctr_IAE_1 ctr_IAE_2 ctr_IAE_5 hown (by decide) (by decide) (hts _ (wg_t kw_501)) (hts _ (wg_t kw_18)) (hX.2.2.2.2.2.1 3 ("LatticeKeys", 103, "no such set, or a seed of another length") rfl) (hat_IAE hts hX.2) hS.1 (hl.1.trans hml.symm) dK_keys_18 dK_keys_21 dK_keys_22 dK_keys_24 dK_keys_27 htab (Nat.le_of_ble_eq_true rfl) (Nat.le_of_ble_eq_true rfl) (Nat.le_of_ble_eq_true rfl) (Nat.le_of_ble_eq_true rfl) hlk (Nat.le_of_ble_eq_true rfl) (Nat.le_of_ble_eq_true rfl) List.mem_cons_self hS.2.2 (thr_st hX.2) (fun t hz9 hk9 => ⟨⟨((T, tl, al, pn), pl), ⟨⟨⟨(by show tl ≤ 16384; omega), (by show al ≤ 8192; omega), (by show pn ≤ 8; omega), hXT, hU⟩, trivial⟩, hO⟩, lc_P hP hk9, hD⟩, (lc_S hS hz9 hk9).F rfl⟩)
    | 5, _ =>
      refine lv_if_eq (tgt := 18) hx hb dK_keys_4 (by decide) (fun h42 => absurd h42 (by decide)) (fun h42 => ?_)
      refine lv_aload_n hx hb dK_keys_7 rfl (lv_at hl 0 rfl) ?_
      refine va_get (D := g.1) (ci := 0) (C := "LatticeKeys") (T := T_K) (N := 11) hx hb hts (wg_ft i_K) hown hK hP 0 rfl rfl 1 (by decide) (hts _ (wg_t kw_375)) (fun _ h9 => h9) rfl dK_keys_8 ?_
      refine lv_iload_n hx hb dK_keys_11 rfl (lv_at hl 1 rfl) ?_
      refine mp_i (cx := []) (wr := [(h0, .inr (0, [.ref kt, .int (nI tl), .ref ka, .int (nI al), .ref kp, .int (nI pn), .ref kks, .ref kds, .ref ksp, .ref kkm, .ref kda]))]) hP hD hS hA [] [0] rfl rfl rfl (by decide) (va_runS (As := [.int (nI 5)]) (rest := [.int (nI tl)]) F (t_K_seedLength_5 l g _ T  pl hO hU  ) (va_cwS 1 hts (wg_app (wg_c kw_561 (wg_c kw_562 (wg_c kw_1 wg_n))) kw_563) rfl rfl rfl (by decide +kernel) ⟨by decide, by decide⟩) (pp_S (en_ok g) hP hD hS hA hE [] rfl rfl) rfl rfl hl.1 rfl (lv_room (Nat.le_of_ble_eq_true rfl)) dK_keys_12 ⟨Nat.le_of_ble_eq_true rfl, Nat.le_of_ble_eq_true rfl⟩) (fun r47 pl H locs hu52 hP hD hS => ?_)
      obtain ⟨hq52, hO⟩ := hu52
      have hP : va_P g.1 vcl ([(h0, .inr (0, [.ref kt, .int (nI tl), .ref ka, .int (nI al), .ref kp, .int (nI pn), .ref kks, .ref kds, .ref ksp, .ref kkm, .ref kda]))] ++ pl) _ := hP
      have hD : va_D _ ([(h0, .inr (0, [.ref kt, .int (nI tl), .ref ka, .int (nI al), .ref kp, .int (nI pn), .ref kks, .ref kds, .ref ksp, .ref kkm, .ref kda]))] ++ pl) := hD
      obtain rfl := hq52
      refine W.widen (k := 0) (n := 0) (by omega) (by omega) ?_
      refine mi_eq (tgt := 28) hx hb dK_keys_15 (by decide) (by omega) (by omega) (fun h43 => ?_) (fun h43 => ?_)
      · refine lv_aload_n hx hb dK_keys_28 rfl (lv_at hl 0 rfl) ?_
        refine va_get (D := g.1) (ci := 0) (C := "LatticeKeys") (T := T_K) (N := 11) hx hb hts (wg_ft i_K) hown hK hP 0 rfl rfl 5 (by decide) (hts _ (wg_t kw_379)) (fun _ h9 => h9) rfl dK_keys_29 ?_
        refine lv_bipush (v := nI 8) hx hb dK_keys_32 (by decide) ?_
        refine mi_lt (tgt := 47) hx hb dK_keys_34 (by decide) (by omega) (by omega) (fun h44 => ?_) (fun h44 => ?_)
        · refine lv_aload_n hx hb dK_keys_47 rfl (lv_at hl 0 rfl) ?_
          refine lv_iload_n hx hb dK_keys_48 rfl (lv_at hl 1 rfl) ?_
          refine mp_i (cx := [(h0, .inr (0, [.ref kt, .int (nI tl), .ref ka, .int (nI al), .ref kp, .int (nI pn), .ref kks, .ref kds, .ref ksp, .ref kkm, .ref kda]))]) (wr := []) hP hD hS hA [0] [] rfl rfl rfl (by decide) (va_runV (As := [.int (nI 5)]) (rest := []) F (t_K_publicLength_5 l g _ T  pl hO hU  h0 kt ka kp kks kds ksp kkm kda tl al pn k_kt k_ka k_kp k_kks k_kds k_ksp k_kkm k_kda (by omega)) (cwV 1 hts (wg_app (wg_c kw_566 (wg_c kw_568 (wg_c ks_2 (wg_c kw_1 wg_n)))) kw_569) rfl rfl rfl (by decide +kernel) ⟨by decide, by decide⟩) (pp_V (en_ok g) (q0 := 0) hK hP hD hS hA hE [0] rfl rfl rfl rfl) rfl rfl hl.1 rfl (lv_room (Nat.le_of_ble_eq_true rfl)) dK_keys_49 ⟨Nat.le_of_ble_eq_true rfl, Nat.le_of_ble_eq_true rfl⟩) (fun r48 pl H locs hu53 hP hD hS => ?_)
          obtain ⟨hq53, hO⟩ := hu53
          have hP : va_P g.1 vcl ([(h0, .inr (0, [.ref kt, .int (nI tl), .ref ka, .int (nI al), .ref kp, .int (nI pn), .ref kks, .ref kds, .ref ksp, .ref kkm, .ref kda]))] ++ pl) _ := hP
          have hD : va_D _ ([(h0, .inr (0, [.ref kt, .int (nI tl), .ref ka, .int (nI al), .ref kp, .int (nI pn), .ref kks, .ref kds, .ref ksp, .ref kkm, .ref kda]))] ++ pl) := hD
          obtain rfl := hq53
          refine W.widen (k := 0) (n := 0) (by omega) (by omega) ?_
          refine ma_newa (ws := [(h0, .inr (0, [.ref kt, .int (nI tl), .ref ka, .int (nI al), .ref kp, .int (nI pn), .ref kks, .ref kds, .ref ksp, .ref kkm, .ref kda]))] ++ pl) (atype := .byte) hx hb (hts _ (wg_t kw_72)) rfl hK hP hD hS hA 1 rfl (N' := 2592) (a0 := (2592, .inl (fun _ => 0))) (fun _ => rfl) (nI_pos (by omega)) (nI_clamp (by omega)) (by show (2592) * 1 ≤ 536870912; omega) (Nat.le_of_ble_eq_true rfl) (Nat.le_of_ble_eq_true rfl) dK_keys_52 (fun q36 H hP hD hS => ?_)
          refine W.widen (k := 1) (n := 2592) (by omega) (by omega) ?_
          obtain ⟨T, pl, hxt36, hU, kr41, hO, hP, hD, hnk36⟩ := absorb (X := [(h0, .inr (0, [.ref kt, .int (nI tl), .ref ka, .int (nI al), .ref kp, .int (nI pn), .ref kks, .ref kds, .ref ksp, .ref kkm, .ref kda]))]) (1, 2592) hP hD hO hU (Or.inl rfl) (fun _ _ _ => ⟨_, rfl, byt_0⟩)
          have k_kt := hxt36 _ _ k_kt
          have k_ka := hxt36 _ _ k_ka
          have k_kp := hxt36 _ _ k_kp
          have k_kks := hxt36 _ _ k_kks
          have k_kds := hxt36 _ _ k_kds
          have k_ksp := hxt36 _ _ k_ksp
          have k_kkm := hxt36 _ _ k_kkm
          have k_kda := hxt36 _ _ k_kda
          have hXT := ext_tr hXT hxt36
          have hP : va_P g.1 vcl ([(h0, .inr (0, [.ref kt, .int (nI tl), .ref ka, .int (nI al), .ref kp, .int (nI pn), .ref kks, .ref kds, .ref ksp, .ref kkm, .ref kda]))] ++ pl) _ := hP
          have hD : va_D _ ([(h0, .inr (0, [.ref kt, .int (nI tl), .ref ka, .int (nI al), .ref kp, .int (nI pn), .ref kks, .ref kds, .ref ksp, .ref kkm, .ref kda]))] ++ pl) := hD
          refine lv_astore_n (lv' := [(2, .ref q36), (0, .ref h0), (1, .int (nI 5))]) hx hb dK_keys_54 rfl hl (by decide) rfl (fun ls hl => ?_)
          refine lv_aload_n hx hb dK_keys_55 rfl (lv_at hl 1 rfl) ?_
          refine lv_iload_n hx hb dK_keys_56 rfl (lv_at hl 2 rfl) ?_
          refine mp_i (cx := [(h0, .inr (0, [.ref kt, .int (nI tl), .ref ka, .int (nI al), .ref kp, .int (nI pn), .ref kks, .ref kds, .ref ksp, .ref kkm, .ref kda]))]) (wr := []) hP hD hS hA [0] [] rfl rfl rfl (by decide) (va_runV (As := [.int (nI 5)]) (rest := []) F (t_K_secretLength_5 l g _ T  pl hO hU  h0 kt ka kp kks kds ksp kkm kda tl al pn k_kt k_ka k_kp k_kks k_kds k_ksp k_kkm k_kda (by omega)) (cwV 1 hts (wg_app (wg_c kw_570 (wg_c kw_572 (wg_c ks_3 (wg_c kw_1 wg_n)))) kw_573) rfl rfl rfl (by decide +kernel) ⟨by decide, by decide⟩) (pp_V (en_ok g) (q0 := 0) hK hP hD hS hA hE [0] rfl rfl rfl rfl) rfl rfl hl.1 rfl (lv_room (Nat.le_of_ble_eq_true rfl)) dK_keys_57 ⟨Nat.le_of_ble_eq_true rfl, Nat.le_of_ble_eq_true rfl⟩) (fun r49 pl H locs hu54 hP hD hS => ?_)
          obtain ⟨hq54, hO⟩ := hu54
          have hP : va_P g.1 vcl ([(h0, .inr (0, [.ref kt, .int (nI tl), .ref ka, .int (nI al), .ref kp, .int (nI pn), .ref kks, .ref kds, .ref ksp, .ref kkm, .ref kda]))] ++ pl) _ := hP
          have hD : va_D _ ([(h0, .inr (0, [.ref kt, .int (nI tl), .ref ka, .int (nI al), .ref kp, .int (nI pn), .ref kks, .ref kds, .ref ksp, .ref kkm, .ref kda]))] ++ pl) := hD
          obtain rfl := hq54
          refine W.widen (k := 1) (n := 2592) (by omega) (by omega) ?_
          refine ma_newa (ws := [(h0, .inr (0, [.ref kt, .int (nI tl), .ref ka, .int (nI al), .ref kp, .int (nI pn), .ref kks, .ref kds, .ref ksp, .ref kkm, .ref kda]))] ++ pl) (atype := .byte) hx hb (hts _ (wg_t kw_72)) rfl hK hP hD hS hA 1 rfl (N' := 4896) (a0 := (4896, .inl (fun _ => 0))) (fun _ => rfl) (nI_pos (by omega)) (nI_clamp (by omega)) (by show (4896) * 1 ≤ 536870912; omega) (Nat.le_of_ble_eq_true rfl) (Nat.le_of_ble_eq_true rfl) dK_keys_60 (fun q37 H hP hD hS => ?_)
          refine W.widen (k := 2) (n := 7488) (by omega) (by omega) ?_
          obtain ⟨T, pl, hxt37, hU, kr42, hO, hP, hD, hnk37⟩ := absorb (X := [(h0, .inr (0, [.ref kt, .int (nI tl), .ref ka, .int (nI al), .ref kp, .int (nI pn), .ref kks, .ref kds, .ref ksp, .ref kkm, .ref kda]))]) (1, 4896) hP hD hO hU (Or.inl rfl) (fun _ _ _ => ⟨_, rfl, byt_0⟩)
          have k_kt := hxt37 _ _ k_kt
          have k_ka := hxt37 _ _ k_ka
          have k_kp := hxt37 _ _ k_kp
          have k_kks := hxt37 _ _ k_kks
          have k_kds := hxt37 _ _ k_kds
          have k_ksp := hxt37 _ _ k_ksp
          have k_kkm := hxt37 _ _ k_kkm
          have k_kda := hxt37 _ _ k_kda
          have kr41 := hxt37 _ _ kr41
          have hXT := ext_tr hXT hxt37
          have hP : va_P g.1 vcl ([(h0, .inr (0, [.ref kt, .int (nI tl), .ref ka, .int (nI al), .ref kp, .int (nI pn), .ref kks, .ref kds, .ref ksp, .ref kkm, .ref kda]))] ++ pl) _ := hP
          have hD : va_D _ ([(h0, .inr (0, [.ref kt, .int (nI tl), .ref ka, .int (nI al), .ref kp, .int (nI pn), .ref kks, .ref kds, .ref ksp, .ref kkm, .ref kda]))] ++ pl) := hD
          refine lv_astore_n (lv' := [(3, .ref q37), (2, .ref q36), (0, .ref h0), (1, .int (nI 5))]) hx hb dK_keys_62 rfl hl (by decide) rfl (fun ls hl => ?_)
          refine lv_iload_n hx hb dK_keys_63 rfl (lv_at hl 3 rfl) ?_
          refine lv_iconst (v := nI 3) hx hb dK_keys_64 (by decide) ?_
          refine mi_ge (tgt := 90) hx hb dK_keys_65 (by decide) (by omega) (by omega) (fun h45 => ?_) (fun h45 => absurd h45 (by omega))
          refine lv_aload_n hx hb dK_keys_90 rfl (lv_at hl 2 rfl) ?_
          refine va_get (D := g.1) (ci := 0) (C := "LatticeKeys") (T := T_K) (N := 11) hx hb hts (wg_ft i_K) hown hK hP 0 rfl rfl 10 (by decide) (hts _ (wg_t kw_384)) (fun _ h9 => h9) rfl dK_keys_91 ?_
          refine lv_aload_n hx hb dK_keys_94 rfl (lv_at hl 2 rfl) ?_
          refine va_get (D := g.1) (ci := 0) (C := "LatticeKeys") (T := T_K) (N := 11) hx hb hts (wg_ft i_K) hown hK hP 0 rfl rfl 7 (by decide) (hts _ (wg_t kw_381)) (fun _ h9 => h9) rfl dK_keys_95 ?_
          refine lv_iload_n hx hb dK_keys_98 rfl (lv_at hl 3 rfl) ?_
          refine lv_iconst (v := nI 3) hx hb dK_keys_99 (by decide) ?_
          refine mi_isub hx hb dK_keys_100 (by omega) ?_
          refine mi_as (show nI (5 - 3) = nI 2 from rfl) ?_
          refine ty_aald51 hx hb hK hO k_kds (nxg clo_nil k_kds rfl) hP (by omega) dK_keys_101 (fun r50 kr43 => ?_)
          refine lv_aload_n hx hb dK_keys_102 rfl (lv_at hl 2 rfl) ?_
          refine va_get (D := g.1) (ci := 0) (C := "LatticeKeys") (T := T_K) (N := 11) hx hb hts (wg_ft i_K) hown hK hP 0 rfl rfl 0 (by decide) (hts _ (wg_t kw_374)) (fun _ h9 => h9) rfl dK_keys_103 ?_
          refine lv_aload_n hx hb dK_keys_106 rfl (lv_at hl 1 rfl) ?_
          refine lv_aload_n hx hb dK_keys_107 rfl (lv_at hl 0 rfl) ?_
          refine mp_v (cx := []) (wr := [(h0, .inr (0, [.ref kt, .int (nI tl), .ref ka, .int (nI al), .ref kp, .int (nI pn), .ref kks, .ref kds, .ref ksp, .ref kkm, .ref kda]))]) hP hD hS hA [] [0] rfl rfl rfl (by decide) (va_runV (As := [.ref r50, .ref kt, .ref q36, .ref q37]) (rest := []) F (t_DA_makePair_2 l g _ T [] pl hO hU clo_nil clo_nil clo_nil kda r50 kt q36 q37 16384 k_kda kr43 k_kt kr41 kr42 (by omega) (by omega)) (cwV 4 hts (wg_app (wg_c kw_665 (wg_c kw_666 (wg_c kw_667 (wg_c kw_5 wg_n)))) kw_668) rfl rfl rfl (by decide +kernel) ⟨by decide, by decide⟩) (pp_VT (en_ok g) (ci := 6) (kd := (15, 0)) hK hO k_kda (nxg clo_nil k_kda rfl) (fun _ h9 => ko1 h9) hP hD hS hA hE [] rfl rfl rfl) rfl rfl hl.1 rfl (lv_room (Nat.le_of_ble_eq_true rfl)) dK_keys_108 ⟨Nat.le_of_ble_eq_true rfl, Nat.le_of_ble_eq_true rfl⟩) (fun  pl H locs hu55 hP hD hS => ?_)
          obtain ⟨hq55, hO⟩ := hu55
          have hP : va_P g.1 vcl ([(h0, .inr (0, [.ref kt, .int (nI tl), .ref ka, .int (nI al), .ref kp, .int (nI pn), .ref kks, .ref kds, .ref ksp, .ref kkm, .ref kda]))] ++ pl) _ := hP
          have hD : va_D _ ([(h0, .inr (0, [.ref kt, .int (nI tl), .ref ka, .int (nI al), .ref kp, .int (nI pn), .ref kks, .ref kds, .ref ksp, .ref kkm, .ref kda]))] ++ pl) := hD
          refine W.widen (k := 2) (n := 7488) (by omega) (by omega) ?_
          refine lv_aload_n hx hb dK_keys_111 rfl (lv_at hl 2 rfl) ?_
          refine lv_iconst (v := nI 0) hx hb dK_keys_112 (by decide) ?_
          refine va_put (D := g.1) (ci := 0) (v := .int (nI 0)) (ty := .int) (C := "LatticeKeys") (T := T_K) (N := 11) hx hb hts (wg_ft i_K) ty_K k_K n_K hown hK hP hD hS 0 rfl rfl 1 (by decide) (hts _ (wg_t kw_375)) (fun _ h9 => h9) rfl (by decide +kernel) rfl rfl (Nat.le_of_ble_eq_true rfl) dK_keys_113 (fun H locs hP hD hS => ?_)
          have hP : va_P g.1 vcl ([(h0, .inr (0, [.ref kt, .int (nI 0), .ref ka, .int (nI al), .ref kp, .int (nI pn), .ref kks, .ref kds, .ref ksp, .ref kkm, .ref kda]))] ++ pl) _ := hP
          have hD : va_D _ ([(h0, .inr (0, [.ref kt, .int (nI 0), .ref ka, .int (nI al), .ref kp, .int (nI pn), .ref kks, .ref kds, .ref ksp, .ref kkm, .ref kda]))] ++ pl) := hD
          refine lv_aload_n hx hb dK_keys_116 rfl (lv_at hl 2 rfl) ?_
          refine va_new (ws := [(h0, .inr (0, [.ref kt, .int (nI 0), .ref ka, .int (nI al), .ref kp, .int (nI pn), .ref kks, .ref kds, .ref ksp, .ref kkm, .ref kda]))] ++ pl) (ci := 13) (fs := [.int 0, .null, .null]) (C := "LatticeKeys$KeyPair") (T := T_KP) (N := 3) hx hb hts (wg_ft i_KP) ty_KP k_KP hown (hts _ (wg_t kw_43)) (hts _ (wg_t kw_740)) (hts _ (wg_t kw_24)) hK hP hD hS hA rfl z_KP (Nat.le_of_ble_eq_true rfl) (Nat.le_of_ble_eq_true rfl) dK_keys_117 (fun q38 H hP hD hS => ?_)
          obtain ⟨hP, hD⟩ := mv_first hP hD
          have hP : va_P g.1 vcl ([(h0, .inr (0, [.ref kt, .int (nI 0), .ref ka, .int (nI al), .ref kp, .int (nI pn), .ref kks, .ref kds, .ref ksp, .ref kkm, .ref kda])), (q38, .inr (13, [.int 0, .null, .null]))] ++ pl) _ := hP
          have hD : va_D _ ([(h0, .inr (0, [.ref kt, .int (nI 0), .ref ka, .int (nI al), .ref kp, .int (nI pn), .ref kks, .ref kds, .ref ksp, .ref kkm, .ref kda])), (q38, .inr (13, [.int 0, .null, .null]))] ++ pl) := hD
          refine W.widen (k := 3) (n := 7491) (by omega) (by omega) ?_
          refine lv_dup hx hb dK_keys_120 rfl ?_
          refine lv_iload_n hx hb dK_keys_121 rfl (lv_at hl 3 rfl) ?_
          refine lv_aload_n hx hb dK_keys_122 rfl (lv_at hl 1 rfl) ?_
          refine lv_aload_n hx hb dK_keys_123 rfl (lv_at hl 0 rfl) ?_
          refine mp_v (cx := [(q38, .inr (13, [.int 0, .null, .null]))]) (wr := [(h0, .inr (0, [.ref kt, .int (nI 0), .ref ka, .int (nI al), .ref kp, .int (nI pn), .ref kks, .ref kds, .ref ksp, .ref kkm, .ref kda]))]) hP hD hS hA [1] [0] rfl rfl rfl (by decide) (va_runI (As := [.int (nI 5), .ref q36, .ref q37]) (rest := [.ref q38, .ref h0]) F (t_KP_init17 l g _ T  pl hO hU  (nI 5) q38 q36 q37) (cwI 3 hts (wg_in kw_743) rfl rfl rfl (hts _ (wg_t kw_24)) (hts _ (wg_t kw_741)) (hts _ (wg_t kw_742)) rfl (by decide +kernel) ⟨by decide, by decide⟩) (pp_S (en_ok g) hP hD hS hA hE [1] rfl rfl) rfl rfl hl.1 rfl (lv_room (Nat.le_of_ble_eq_true rfl)) dK_keys_124 ⟨Nat.le_of_ble_eq_true rfl, Nat.le_of_ble_eq_true rfl⟩) (fun  pl H locs hu56 hP hD hS => ?_)
          obtain ⟨hq56, hO⟩ := hu56
          have hP : va_P g.1 vcl ([(h0, .inr (0, [.ref kt, .int (nI 0), .ref ka, .int (nI al), .ref kp, .int (nI pn), .ref kks, .ref kds, .ref ksp, .ref kkm, .ref kda])), (q38, .inr (13, [.int (nI 5), .ref q36, .ref q37]))] ++ pl) _ := hP
          have hD : va_D _ ([(h0, .inr (0, [.ref kt, .int (nI 0), .ref ka, .int (nI al), .ref kp, .int (nI pn), .ref kks, .ref kds, .ref ksp, .ref kkm, .ref kda])), (q38, .inr (13, [.int (nI 5), .ref q36, .ref q37]))] ++ pl) := hD
          refine W.widen (k := 3) (n := 7491) (by omega) (by omega) ?_
          obtain ⟨hP, hD⟩ := mv_last (X := [(h0, .inr (0, [.ref kt, .int (nI 0), .ref ka, .int (nI al), .ref kp, .int (nI pn), .ref kks, .ref kds, .ref ksp, .ref kkm, .ref kda]))]) (c := (q38, .inr (13, [.int (nI 5), .ref q36, .ref q37]))) hP hD
          obtain ⟨T, pl, hxt38, hU, kr44, hO, hP, hD, hnk38⟩ := absorb (X := [(h0, .inr (0, [.ref kt, .int (nI 0), .ref ka, .int (nI al), .ref kp, .int (nI pn), .ref kks, .ref kds, .ref ksp, .ref kkm, .ref kda]))]) (17, 5) hP hD hO hU (Or.inl rfl) (fun T9 h9 _ => ⟨_, rfl, ⟨rfl, ⟨_, rfl, h9 _ _ kr41⟩, ⟨_, rfl, h9 _ _ kr42⟩, trivial⟩⟩)
          have k_kt := hxt38 _ _ k_kt
          have k_ka := hxt38 _ _ k_ka
          have k_kp := hxt38 _ _ k_kp
          have k_kks := hxt38 _ _ k_kks
          have k_kds := hxt38 _ _ k_kds
          have k_ksp := hxt38 _ _ k_ksp
          have k_kkm := hxt38 _ _ k_kkm
          have k_kda := hxt38 _ _ k_kda
          have kr41 := hxt38 _ _ kr41
          have kr42 := hxt38 _ _ kr42
          have kr43 := hxt38 _ _ kr43
          have hXT := ext_tr hXT hxt38
          have hP : va_P g.1 vcl ([(h0, .inr (0, [.ref kt, .int (nI 0), .ref ka, .int (nI al), .ref kp, .int (nI pn), .ref kks, .ref kds, .ref ksp, .ref kkm, .ref kda]))] ++ pl) _ := hP
          have hD : va_D _ ([(h0, .inr (0, [.ref kt, .int (nI 0), .ref ka, .int (nI al), .ref kp, .int (nI pn), .ref kks, .ref kds, .ref ksp, .ref kkm, .ref kda]))] ++ pl) := hD
          refine mp_i (cx := [(h0, .inr (0, [.ref kt, .int (nI 0), .ref ka, .int (nI al), .ref kp, .int (nI pn), .ref kks, .ref kds, .ref ksp, .ref kkm, .ref kda]))]) (wr := []) hP hD hS hA [0] [] rfl rfl rfl (by decide) (va_runV (As := [.ref q38]) (rest := []) F (t_K_keep17 l g _ T  pl hO hU  q38 5 h0 kt ka kp kks kds ksp kkm kda 0 al pn k_kt k_ka k_kp k_kks k_kds k_ksp k_kkm k_kda kr44 (by omega) (by omega) (by omega)) (cwV 1 hts (wg_app (wg_c kw_760 (wg_c kw_762 (wg_c ks_19 (wg_c kw_1 wg_n)))) kw_763) rfl rfl rfl (by decide +kernel) ⟨by decide, by decide⟩) (pp_V (en_ok g) (q0 := 0) hK hP hD hS hA hE [0] rfl rfl rfl rfl) rfl rfl hl.1 rfl (lv_room (Nat.le_of_ble_eq_true rfl)) dK_keys_127 ⟨Nat.le_of_ble_eq_true rfl, Nat.le_of_ble_eq_true rfl⟩) (fun r51 pl H locs hu57 hP hD hS => ?_)
          obtain ⟨hq57, hO⟩ := hu57
          have hP : va_P g.1 vcl ([(h0, .inr (0, [.ref kt, .int (nI 0), .ref ka, .int (nI al), .ref kp, .int (nI (pn + 1)), .ref kks, .ref kds, .ref ksp, .ref kkm, .ref kda]))] ++ pl) _ := hP
          have hD : va_D _ ([(h0, .inr (0, [.ref kt, .int (nI 0), .ref ka, .int (nI al), .ref kp, .int (nI (pn + 1)), .ref kks, .ref kds, .ref ksp, .ref kkm, .ref kda]))] ++ pl) := hD
          obtain rfl := hq57
          refine W.widen (k := 3) (n := 7491) (by omega) (by omega) ?_
          refine et_ret ?_
          exact mp_iret hx hb hr hlk hP hD hS ((T, 0, al, pn + 1), pl) ⟨⟨⟨(by show 0 ≤ 16384; omega), (by show al ≤ 8192; omega), (by show pn + 1 ≤ 8; omega), hXT, hU⟩, trivial⟩, hO⟩ [0] rfl rfl rfl (by omega) (by omega) dK_keys_130
        · exact et_throw (own := "LatticeKeys") (cls := "java/lang/IllegalStateException") (text := "no room for more keys") (names := ["java/lang/RuntimeException", "java/lang/Exception"]) (ik := 69) (is := 105) (ic := 73) hx hb htr ctr_ISE_0 ctr_ISE_1 ctr_ISE_2 ctr_ISE_5 hown (by decide) (by decide) (hts _ (wg_t kw_420)) (hts _ (wg_t kw_17)) (hX.2.2.2.2.2.1 4 ("LatticeKeys", 105, "no room for more keys") rfl) (hat_ISE hts hX.2) hS.1 (hl.1.trans hml.symm) dK_keys_37 dK_keys_40 dK_keys_41 dK_keys_43 dK_keys_46 htab (Nat.le_of_ble_eq_true rfl) (Nat.le_of_ble_eq_true rfl) (Nat.le_of_ble_eq_true rfl) (Nat.le_of_ble_eq_true rfl) hlk (Nat.le_of_ble_eq_true rfl) (Nat.le_of_ble_eq_true rfl) (List.mem_cons_of_mem _ List.mem_cons_self) hS.2.2 (thr_st hX.2) (fun t hz9 hk9 => ⟨⟨((T, tl, al, pn), pl), ⟨⟨⟨(by show tl ≤ 16384; omega), (by show al ≤ 8192; omega), (by show pn ≤ 8; omega), hXT, hU⟩, trivial⟩, hO⟩, lc_P hP hk9, hD⟩, (lc_S hS hz9 hk9).F rfl⟩)
      · exact et_throw (own := "LatticeKeys") (cls := "java/lang/IllegalArgumentException") (text := "no such set, or a seed of another length") (names := ["java/lang/RuntimeException", "java/lang/Exception"]) (ik := 79) (is := 103) (ic := 83) hx hb htr ctr_IAE_0 ctr_IAE_1 ctr_IAE_2 ctr_IAE_5 hown (by decide) (by decide) (hts _ (wg_t kw_501)) (hts _ (wg_t kw_18)) (hX.2.2.2.2.2.1 3 ("LatticeKeys", 103, "no such set, or a seed of another length") rfl) (hat_IAE hts hX.2) hS.1 (hl.1.trans hml.symm) dK_keys_18 dK_keys_21 dK_keys_22 dK_keys_24 dK_keys_27 htab (Nat.le_of_ble_eq_true rfl) (Nat.le_of_ble_eq_true rfl) (Nat.le_of_ble_eq_true rfl) (Nat.le_of_ble_eq_true rfl) hlk (Nat.le_of_ble_eq_true rfl) (Nat.le_of_ble_eq_true rfl) List.mem_cons_self hS.2.2 (thr_st hX.2) (fun t hz9 hk9 => ⟨⟨((T, tl, al, pn), pl), ⟨⟨⟨(by show tl ≤ 16384; omega), (by show al ≤ 8192; omega), (by show pn ≤ 8; omega), hXT, hU⟩, trivial⟩, hO⟩, lc_P hP hk9, hD⟩, (lc_S hS hz9 hk9).F rfl⟩)
    | _ + 6, h9 => exact absurd h9 (by omega)
set_option maxHeartbeats 4000000 in
set_option maxRecDepth 100000 in
theorem e_K_load (l : Launch) (htr : l.stackTraces = false) (g : Gd) (sz : Nat) (T : Ty) (pl : va_W) (hO : okx g T [] pl) (hU : uni T) (v : Int32) (sc : Int32) (h0 kt ka kp kks kds ksp kkm kda tl al pn : Nat) (k_kt : T kt = some (1, 16384)) (k_ka : T ka = some (1, 8192)) (k_kp : T kp = some (6, 0)) (k_kks : T kks = some (50, 0)) (k_kds : T kds = some (51, 0)) (k_ksp : T ksp = some (10, 0)) (k_kkm : T kkm = some (13, 0)) (k_kda : T kda = some (15, 0)) (hb : tl ≤ 16384 ∧ al ≤ 8192 ∧ pn ≤ 8)  : etMet l y_K_load w_K_load ({ frames := 6, cells := 3, slots := 7491, locals := 168 } : Room) (va_Pc [.ref h0, .int v, .int sc] (pr (ex g) g.1 vcl sz ([(h0, .inr (0, [.ref kt, .int (nI tl), .ref ka, .int (nI al), .ref kp, .int (nI pn), .ref kks, .ref kds, .ref ksp, .ref kkm, .ref kda]))] ++ pl))) ["java/lang/IllegalArgumentException", "java/lang/UnsupportedOperationException", "java/lang/IllegalStateException"] (va_Qi (fun (r : Int32) (u : (Ty × Nat × Nat × Nat) × va_W) => ((u.1.2.1 ≤ 16384 ∧ u.1.2.2.1 ≤ 8192 ∧ u.1.2.2.2 ≤ 8 ∧ ext T u.1.1 ∧ uni u.1.1) ∧ (True)) ∧ okx g u.1.1 [] u.2) (po g.1 vcl (va_A ([(h0, .inr (0, [.ref kt, .int (nI tl), .ref ka, .int (nI al), .ref kp, .int (nI pn), .ref kks, .ref kds, .ref ksp, .ref kkm, .ref kda]))] ++ pl) sz) (fun (u : (Ty × Nat × Nat × Nat) × va_W) => [(h0, .inr (0, [.ref kt, .int (nI (u.1.2.1)), .ref ka, .int (nI (u.1.2.2.1)), .ref kp, .int (nI (u.1.2.2.2)), .ref kks, .ref kds, .ref ksp, .ref kkm, .ref kda]))] ++ u.2)) (va_A ([(h0, .inr (0, [.ref kt, .int (nI tl), .ref ka, .int (nI al), .ref kp, .int (nI pn), .ref kks, .ref kds, .ref ksp, .ref kkm, .ref kda]))] ++ pl) sz)) (xtP (fun (u : (Ty × Nat × Nat × Nat) × va_W) => ((u.1.2.1 ≤ 16384 ∧ u.1.2.2.1 ≤ 8192 ∧ u.1.2.2.2 ≤ 8 ∧ ext T u.1.1 ∧ uni u.1.1) ∧ (True)) ∧ okx g u.1.1 [] u.2) (po g.1 vcl (va_A ([(h0, .inr (0, [.ref kt, .int (nI tl), .ref ka, .int (nI al), .ref kp, .int (nI pn), .ref kks, .ref kds, .ref ksp, .ref kkm, .ref kda]))] ++ pl) sz) (fun (u : (Ty × Nat × Nat × Nat) × va_W) => [(h0, .inr (0, [.ref kt, .int (nI (u.1.2.1)), .ref ka, .int (nI (u.1.2.2.1)), .ref kp, .int (nI (u.1.2.2.2)), .ref kks, .ref kds, .ref ksp, .ref kkm, .ref kda]))] ++ u.2)) (va_A ([(h0, .inr (0, [.ref kt, .int (nI tl), .ref ka, .int (nI al), .ref kp, .int (nI pn), .ref kks, .ref kds, .ref ksp, .ref kkm, .ref kda]))] ++ pl) sz)) 3 7491 (va_A ([(h0, .inr (0, [.ref kt, .int (nI tl), .ref ka, .int (nI al), .ref kp, .int (nI pn), .ref kks, .ref kds, .ref ksp, .ref kkm, .ref kda]))] ++ pl) sz) := by
  refine et_entry (cc := c_K_load) (maxL := 4) (ret := (some .int)) (by decide) rfl (Nat.le_of_ble_eq_true rfl) ?_
  intro p e s m args below meth c ls F hr hlk htab hsz hP hD hX hA hl
  obtain ⟨hx, hb, hml, hown, hts⟩ := id F
  have hE := hX.1
  have hK := hE.1
  generalize va_A ([(h0, .inr (0, [.ref kt, .int (nI tl), .ref ka, .int (nI al), .ref kp, .int (nI pn), .ref kks, .ref kds, .ref ksp, .ref kkm, .ref kda]))] ++ pl) sz = A at hD hX hE hA ⊢
  have hXT : ext T T := ext_rf
  have hS : va_S A s.heap s.heap [] := va_S.rf
  have hl : lv_has ls 4 [(0, .ref h0), (1, .int v), (2, .int sc)] := hl
  refine lv_aload_n hx hb dK_load_0 rfl (lv_at hl 0 rfl) ?_
  refine lv_iload_n hx hb dK_load_1 rfl (lv_at hl 1 rfl) ?_
  refine lv_iload_n hx hb dK_load_2 rfl (lv_at hl 2 rfl) ?_
  refine mp_i (cx := [(h0, .inr (0, [.ref kt, .int (nI tl), .ref ka, .int (nI al), .ref kp, .int (nI pn), .ref kks, .ref kds, .ref ksp, .ref kkm, .ref kda]))]) (wr := []) hP hD hS hA [0] [] rfl rfl rfl (by decide) (va_runV (As := [.int v, .int sc]) (rest := []) F (t_K_isLoadable l g _ T  pl hO hU  v sc h0 kt ka kp kks kds ksp kkm kda tl al pn k_kt k_ka k_kp k_kks k_kds k_ksp k_kkm k_kda (by omega)) (cwV 2 hts (wg_app (wg_c kw_772 (wg_c kw_774 (wg_c ks_20 (wg_c kw_1 wg_n)))) kw_775) rfl rfl rfl (by decide +kernel) ⟨by decide, by decide⟩) (pp_V (en_ok g) (q0 := 0) hK hP hD hS hA hE [0] rfl rfl rfl rfl) rfl rfl hl.1 rfl (lv_room (Nat.le_of_ble_eq_true rfl)) dK_load_3 ⟨Nat.le_of_ble_eq_true rfl, Nat.le_of_ble_eq_true rfl⟩) (fun r21 pl H locs hu21 hP hD hS => ?_)
  obtain ⟨hq21, hO⟩ := hu21
  have hP : va_P g.1 vcl ([(h0, .inr (0, [.ref kt, .int (nI tl), .ref ka, .int (nI al), .ref kp, .int (nI pn), .ref kks, .ref kds, .ref ksp, .ref kkm, .ref kda]))] ++ pl) _ := hP
  have hD : va_D _ ([(h0, .inr (0, [.ref kt, .int (nI tl), .ref ka, .int (nI al), .ref kp, .int (nI pn), .ref kks, .ref kds, .ref ksp, .ref kkm, .ref kda]))] ++ pl) := hD
  refine W.widen (k := 0) (n := 0) (by omega) (by omega) ?_
  rcases hq21 with hq21 | hq21
  · obtain rfl := hq21
    refine lv_if_ne (tgt := 19) hx hb dK_load_6 (by decide) (fun h21 => absurd h21 (by decide)) (fun h21 => ?_)
    exact et_throw (own := "LatticeKeys") (cls := "java/lang/IllegalArgumentException") (text := "no such set or part, or another length") (names := ["java/lang/RuntimeException", "java/lang/Exception"]) (ik := 79) (is := 131) (ic := 83) hx hb htr ctr_IAE_0 ctr_IAE_1 ctr_IAE_2 ctr_IAE_5 hown (by decide) (by decide) (hts _ (wg_t kw_501)) (hts _ (wg_t kw_18)) (hX.2.2.2.2.2.1 5 ("LatticeKeys", 131, "no such set or part, or another length") rfl) (hat_IAE hts hX.2) hS.1 (hl.1.trans hml.symm) dK_load_9 dK_load_12 dK_load_13 dK_load_15 dK_load_18 htab (Nat.le_of_ble_eq_true rfl) (Nat.le_of_ble_eq_true rfl) (Nat.le_of_ble_eq_true rfl) (Nat.le_of_ble_eq_true rfl) hlk (Nat.le_of_ble_eq_true rfl) (Nat.le_of_ble_eq_true rfl) List.mem_cons_self hS.2.2 (thr_st hX.2) (fun t hz9 hk9 => ⟨⟨((T, tl, al, pn), pl), ⟨⟨⟨(by show tl ≤ 16384; omega), (by show al ≤ 8192; omega), (by show pn ≤ 8; omega), hXT, hU⟩, trivial⟩, hO⟩, lc_P hP hk9, hD⟩, (lc_S hS hz9 hk9).F rfl⟩)
  · obtain ⟨rfl, j9, hj9, rfl, hq21⟩ := hq21
    match j9, hj9, hq21 with
    | 0, _, hq9 =>
      have hq21 := hq9
      rcases hq21 with hq21 | hq21
      · obtain ⟨rfl, h9⟩ := hq21
        have h9 : tl = 800 := h9
        refine lv_if_ne (tgt := 19) hx hb dK_load_6 (by decide) (fun h22 => ?_) (fun h22 => absurd h22 (by decide))
        refine lv_iload_n hx hb dK_load_19 rfl (lv_at hl 1 rfl) ?_
        refine lv_iconst (v := nI 3) hx hb dK_load_20 (by decide) ?_
        refine mi_ge (tgt := 48) hx hb dK_load_21 (by decide) (by omega) (by omega) (fun h23 => absurd h23 (by omega)) (fun h23 => ?_)
        refine lv_aload_n hx hb dK_load_24 rfl (lv_at hl 0 rfl) ?_
        refine lv_aload_n hx hb dK_load_25 rfl (lv_at hl 0 rfl) ?_
        refine va_get (D := g.1) (ci := 0) (C := "LatticeKeys") (T := T_K) (N := 11) hx hb hts (wg_ft i_K) hown hK hP 0 rfl rfl 6 (by decide) (hts _ (wg_t kw_380)) (fun _ h9 => h9) rfl dK_load_26 ?_
        refine lv_iload_n hx hb dK_load_29 rfl (lv_at hl 1 rfl) ?_
        refine ty_aald50 hx hb hK hO k_kks (nxg clo_nil k_kks rfl) hP (by omega) dK_load_30 (fun r22 kr21 => ?_)
        refine lv_iload_n hx hb dK_load_31 rfl (lv_at hl 2 rfl) ?_
        refine mp_i (cx := [(h0, .inr (0, [.ref kt, .int (nI tl), .ref ka, .int (nI al), .ref kp, .int (nI pn), .ref kks, .ref kds, .ref ksp, .ref kkm, .ref kda]))]) (wr := []) hP hD hS hA [0] [] rfl rfl rfl (by decide) (va_runV (As := [.ref r22, .int (nI 0)]) (rest := []) F (t_K_isSound_0 l g _ T  pl hO hU  r22 (nI 0) h0 kt ka kp kks kds ksp kkm kda tl al pn k_kt k_ka k_kp k_kks k_kds k_ksp k_kkm k_kda kr21 (by omega)) (cwV 2 hts (wg_app (wg_c kw_777 (wg_c kw_779 (wg_c ks_21 (wg_c kw_1 wg_n)))) kw_780) rfl rfl rfl (by decide +kernel) ⟨by decide, by decide⟩) (pp_V (en_ok g) (q0 := 0) hK hP hD hS hA hE [0] rfl rfl rfl rfl) rfl rfl hl.1 rfl (lv_room (Nat.le_of_ble_eq_true rfl)) dK_load_32 ⟨Nat.le_of_ble_eq_true rfl, Nat.le_of_ble_eq_true rfl⟩) (fun r23 pl H locs hu22 hP hD hS => ?_)
        obtain ⟨hq22, hO⟩ := hu22
        have hP : va_P g.1 vcl ([(h0, .inr (0, [.ref kt, .int (nI tl), .ref ka, .int (nI al), .ref kp, .int (nI pn), .ref kks, .ref kds, .ref ksp, .ref kkm, .ref kda]))] ++ pl) _ := hP
        have hD : va_D _ ([(h0, .inr (0, [.ref kt, .int (nI tl), .ref ka, .int (nI al), .ref kp, .int (nI pn), .ref kks, .ref kds, .ref ksp, .ref kkm, .ref kda]))] ++ pl) := hD
        refine W.widen (k := 0) (n := 0) (by omega) (by omega) ?_
        refine lv_if_ne (tgt := 48) hx hb dK_load_35 (by decide) (fun h24 => ?_) (fun h24 => ?_)
        · refine lv_aload_n hx hb dK_load_48 rfl (lv_at hl 0 rfl) ?_
          refine va_get (D := g.1) (ci := 0) (C := "LatticeKeys") (T := T_K) (N := 11) hx hb hts (wg_ft i_K) hown hK hP 0 rfl rfl 5 (by decide) (hts _ (wg_t kw_379)) (fun _ h9 => h9) rfl dK_load_49 ?_
          refine lv_bipush (v := nI 8) hx hb dK_load_52 (by decide) ?_
          refine mi_lt (tgt := 67) hx hb dK_load_54 (by decide) (by omega) (by omega) (fun h25 => ?_) (fun h25 => ?_)
          · refine lv_iload_n hx hb dK_load_67 rfl (lv_at hl 2 rfl) ?_
            refine lv_if_eq (tgt := 79) hx hb dK_load_68 (by decide) (fun h26 => ?_) (fun h26 => absurd h26 (by decide))
            refine va_new (ws := [(h0, .inr (0, [.ref kt, .int (nI tl), .ref ka, .int (nI al), .ref kp, .int (nI pn), .ref kks, .ref kds, .ref ksp, .ref kkm, .ref kda]))] ++ pl) (ci := 13) (fs := [.int 0, .null, .null]) (C := "LatticeKeys$KeyPair") (T := T_KP) (N := 3) hx hb hts (wg_ft i_KP) ty_KP k_KP hown (hts _ (wg_t kw_43)) (hts _ (wg_t kw_740)) (hts _ (wg_t kw_24)) hK hP hD hS hA rfl z_KP (Nat.le_of_ble_eq_true rfl) (Nat.le_of_ble_eq_true rfl) dK_load_79 (fun q21 H hP hD hS => ?_)
            obtain ⟨hP, hD⟩ := mv_first hP hD
            have hP : va_P g.1 vcl ([(h0, .inr (0, [.ref kt, .int (nI tl), .ref ka, .int (nI al), .ref kp, .int (nI pn), .ref kks, .ref kds, .ref ksp, .ref kkm, .ref kda])), (q21, .inr (13, [.int 0, .null, .null]))] ++ pl) _ := hP
            have hD : va_D _ ([(h0, .inr (0, [.ref kt, .int (nI tl), .ref ka, .int (nI al), .ref kp, .int (nI pn), .ref kks, .ref kds, .ref ksp, .ref kkm, .ref kda])), (q21, .inr (13, [.int 0, .null, .null]))] ++ pl) := hD
            refine W.widen (k := 1) (n := 3) (by omega) (by omega) ?_
            refine lv_dup hx hb dK_load_82 rfl ?_
            refine lv_iload_n hx hb dK_load_83 rfl (lv_at hl 1 rfl) ?_
            refine lv_aload_n hx hb dK_load_84 rfl (lv_at hl 0 rfl) ?_
            refine va_get (D := g.1) (ci := 0) (C := "LatticeKeys") (T := T_K) (N := 11) hx hb hts (wg_ft i_K) hown hK hP 0 rfl rfl 0 (by decide) (hts _ (wg_t kw_374)) (fun _ h9 => h9) rfl dK_load_85 ?_
            refine lv_aload_n hx hb dK_load_88 rfl (lv_at hl 0 rfl) ?_
            refine va_get (D := g.1) (ci := 0) (C := "LatticeKeys") (T := T_K) (N := 11) hx hb hts (wg_ft i_K) hown hK hP 0 rfl rfl 1 (by decide) (hts _ (wg_t kw_375)) (fun _ h9 => h9) rfl dK_load_89 ?_
            refine mp_q (cx := []) (wr := [(h0, .inr (0, [.ref kt, .int (nI tl), .ref ka, .int (nI al), .ref kp, .int (nI pn), .ref kks, .ref kds, .ref ksp, .ref kkm, .ref kda])), (q21, .inr (13, [.int 0, .null, .null]))]) hP hD hS hA [] [0, 1] rfl rfl rfl (by decide) (va_runS (As := [.ref kt, .int (nI tl)]) (rest := [.int (nI 0), .ref q21, .ref q21]) F (t_AR_copyOf l g _ T  pl hO hU  kt 16384 tl k_kt (by omega) (by omega) (by omega)) (va_cwS 2 hts (wg_app (wg_c kw_1047 (wg_c kw_880 (wg_c kw_21 wg_n))) kw_881) rfl rfl rfl (by decide +kernel) ⟨by decide, by decide⟩) (pp_S (en_ok g) hP hD hS hA hE [] rfl rfl) rfl rfl hl.1 rfl (lv_room (Nat.le_of_ble_eq_true rfl)) dK_load_92 ⟨Nat.le_of_ble_eq_true rfl, Nat.le_of_ble_eq_true rfl⟩) (fun r24 u21 H locs hu23 hP hD hS => ?_)
            obtain ⟨T, pl⟩ := u21
            obtain ⟨hq23, hO⟩ := hu23
            have hP : va_P g.1 vcl ([(h0, .inr (0, [.ref kt, .int (nI tl), .ref ka, .int (nI al), .ref kp, .int (nI pn), .ref kks, .ref kds, .ref ksp, .ref kkm, .ref kda])), (q21, .inr (13, [.int 0, .null, .null]))] ++ pl) _ := hP
            have hD : va_D _ ([(h0, .inr (0, [.ref kt, .int (nI tl), .ref ka, .int (nI al), .ref kp, .int (nI pn), .ref kks, .ref kds, .ref ksp, .ref kkm, .ref kda])), (q21, .inr (13, [.int 0, .null, .null]))] ++ pl) := hD
            obtain ⟨hxt21, hU, q22, rfl, kr22⟩ := hq23
            have k_kt := hxt21 _ _ k_kt
            have k_ka := hxt21 _ _ k_ka
            have k_kp := hxt21 _ _ k_kp
            have k_kks := hxt21 _ _ k_kks
            have k_kds := hxt21 _ _ k_kds
            have k_ksp := hxt21 _ _ k_ksp
            have k_kkm := hxt21 _ _ k_kkm
            have k_kda := hxt21 _ _ k_kda
            have kr21 := hxt21 _ _ kr21
            have hXT := ext_tr hXT hxt21
            refine W.widen (k := 2) (n := 4899) (by omega) (by omega) ?_
            refine lv_null hx hb dK_load_95 ?_
            refine mp_v (cx := [(q21, .inr (13, [.int 0, .null, .null]))]) (wr := [(h0, .inr (0, [.ref kt, .int (nI tl), .ref ka, .int (nI al), .ref kp, .int (nI pn), .ref kks, .ref kds, .ref ksp, .ref kkm, .ref kda]))]) hP hD hS hA [1] [0] rfl rfl rfl (by decide) (va_runI (As := [.int (nI 0), .ref q22, .null]) (rest := [.ref q21]) F (t_KP_init16 l g _ T  pl hO hU  (nI 0) q21 q22) (cwI 3 hts (wg_in kw_743) rfl rfl rfl (hts _ (wg_t kw_24)) (hts _ (wg_t kw_741)) (hts _ (wg_t kw_742)) rfl (by decide +kernel) ⟨by decide, by decide⟩) (pp_S (en_ok g) hP hD hS hA hE [1] rfl rfl) rfl rfl hl.1 rfl (lv_room (Nat.le_of_ble_eq_true rfl)) dK_load_96 ⟨Nat.le_of_ble_eq_true rfl, Nat.le_of_ble_eq_true rfl⟩) (fun  pl H locs hu24 hP hD hS => ?_)
            obtain ⟨hq24, hO⟩ := hu24
            have hP : va_P g.1 vcl ([(h0, .inr (0, [.ref kt, .int (nI tl), .ref ka, .int (nI al), .ref kp, .int (nI pn), .ref kks, .ref kds, .ref ksp, .ref kkm, .ref kda])), (q21, .inr (13, [.int (nI 0), .ref q22, .null]))] ++ pl) _ := hP
            have hD : va_D _ ([(h0, .inr (0, [.ref kt, .int (nI tl), .ref ka, .int (nI al), .ref kp, .int (nI pn), .ref kks, .ref kds, .ref ksp, .ref kkm, .ref kda])), (q21, .inr (13, [.int (nI 0), .ref q22, .null]))] ++ pl) := hD
            refine W.widen (k := 2) (n := 4899) (by omega) (by omega) ?_
            obtain ⟨hP, hD⟩ := mv_last (X := [(h0, .inr (0, [.ref kt, .int (nI tl), .ref ka, .int (nI al), .ref kp, .int (nI pn), .ref kks, .ref kds, .ref ksp, .ref kkm, .ref kda]))]) (c := (q21, .inr (13, [.int (nI 0), .ref q22, .null]))) hP hD
            obtain ⟨T, pl, hxt22, hU, kr23, hO, hP, hD, hnk21⟩ := absorb (X := [(h0, .inr (0, [.ref kt, .int (nI tl), .ref ka, .int (nI al), .ref kp, .int (nI pn), .ref kks, .ref kds, .ref ksp, .ref kkm, .ref kda]))]) (16, 0) hP hD hO hU (Or.inl rfl) (fun T9 h9 _ => ⟨_, rfl, ⟨rfl, ⟨_, rfl, (by have h8 := h9 _ _ kr22; rw [show tl = 800 by omega] at h8; exact h8)⟩, rfl, trivial⟩⟩)
            have k_kt := hxt22 _ _ k_kt
            have k_ka := hxt22 _ _ k_ka
            have k_kp := hxt22 _ _ k_kp
            have k_kks := hxt22 _ _ k_kks
            have k_kds := hxt22 _ _ k_kds
            have k_ksp := hxt22 _ _ k_ksp
            have k_kkm := hxt22 _ _ k_kkm
            have k_kda := hxt22 _ _ k_kda
            have kr21 := hxt22 _ _ kr21
            have kr22 := hxt22 _ _ kr22
            have hXT := ext_tr hXT hxt22
            have hP : va_P g.1 vcl ([(h0, .inr (0, [.ref kt, .int (nI tl), .ref ka, .int (nI al), .ref kp, .int (nI pn), .ref kks, .ref kds, .ref ksp, .ref kkm, .ref kda]))] ++ pl) _ := hP
            have hD : va_D _ ([(h0, .inr (0, [.ref kt, .int (nI tl), .ref ka, .int (nI al), .ref kp, .int (nI pn), .ref kks, .ref kds, .ref ksp, .ref kkm, .ref kda]))] ++ pl) := hD
            refine lv_astore_n (lv' := [(3, .ref q21), (0, .ref h0), (1, .int (nI 0)), (2, .int (nI 0))]) hx hb dK_load_99 rfl hl (by decide) rfl (fun ls hl => ?_)
            refine lv_aload_n hx hb dK_load_100 rfl (lv_at hl 1 rfl) ?_
            refine lv_iconst (v := nI 0) hx hb dK_load_101 (by decide) ?_
            refine va_put (D := g.1) (ci := 0) (v := .int (nI 0)) (ty := .int) (C := "LatticeKeys") (T := T_K) (N := 11) hx hb hts (wg_ft i_K) ty_K k_K n_K hown hK hP hD hS 0 rfl rfl 1 (by decide) (hts _ (wg_t kw_375)) (fun _ h9 => h9) rfl (by decide +kernel) rfl rfl (Nat.le_of_ble_eq_true rfl) dK_load_102 (fun H locs hP hD hS => ?_)
            have hP : va_P g.1 vcl ([(h0, .inr (0, [.ref kt, .int (nI 0), .ref ka, .int (nI al), .ref kp, .int (nI pn), .ref kks, .ref kds, .ref ksp, .ref kkm, .ref kda]))] ++ pl) _ := hP
            have hD : va_D _ ([(h0, .inr (0, [.ref kt, .int (nI 0), .ref ka, .int (nI al), .ref kp, .int (nI pn), .ref kks, .ref kds, .ref ksp, .ref kkm, .ref kda]))] ++ pl) := hD
            refine lv_aload_n hx hb dK_load_105 rfl (lv_at hl 1 rfl) ?_
            refine lv_aload_n hx hb dK_load_106 rfl (lv_at hl 0 rfl) ?_
            refine mp_i (cx := [(h0, .inr (0, [.ref kt, .int (nI 0), .ref ka, .int (nI al), .ref kp, .int (nI pn), .ref kks, .ref kds, .ref ksp, .ref kkm, .ref kda]))]) (wr := []) hP hD hS hA [0] [] rfl rfl rfl (by decide) (va_runV (As := [.ref q21]) (rest := []) F (t_K_keep16 l g _ T  pl hO hU  q21 0 h0 kt ka kp kks kds ksp kkm kda 0 al pn k_kt k_ka k_kp k_kks k_kds k_ksp k_kkm k_kda kr23 (by omega) (by omega) (by omega)) (cwV 1 hts (wg_app (wg_c kw_760 (wg_c kw_762 (wg_c ks_19 (wg_c kw_1 wg_n)))) kw_763) rfl rfl rfl (by decide +kernel) ⟨by decide, by decide⟩) (pp_V (en_ok g) (q0 := 0) hK hP hD hS hA hE [0] rfl rfl rfl rfl) rfl rfl hl.1 rfl (lv_room (Nat.le_of_ble_eq_true rfl)) dK_load_107 ⟨Nat.le_of_ble_eq_true rfl, Nat.le_of_ble_eq_true rfl⟩) (fun r25 pl H locs hu25 hP hD hS => ?_)
            obtain ⟨hq25, hO⟩ := hu25
            have hP : va_P g.1 vcl ([(h0, .inr (0, [.ref kt, .int (nI 0), .ref ka, .int (nI al), .ref kp, .int (nI (pn + 1)), .ref kks, .ref kds, .ref ksp, .ref kkm, .ref kda]))] ++ pl) _ := hP
            have hD : va_D _ ([(h0, .inr (0, [.ref kt, .int (nI 0), .ref ka, .int (nI al), .ref kp, .int (nI (pn + 1)), .ref kks, .ref kds, .ref ksp, .ref kkm, .ref kda]))] ++ pl) := hD
            obtain rfl := hq25
            refine W.widen (k := 2) (n := 4899) (by omega) (by omega) ?_
            refine et_ret ?_
            exact mp_iret hx hb hr hlk hP hD hS ((T, 0, al, pn + 1), pl) ⟨⟨⟨(by show 0 ≤ 16384; omega), (by show al ≤ 8192; omega), (by show pn + 1 ≤ 8; omega), hXT, hU⟩, trivial⟩, hO⟩ [0] rfl rfl rfl (by omega) (by omega) dK_load_110
          · exact et_throw (own := "LatticeKeys") (cls := "java/lang/IllegalStateException") (text := "no room for more keys") (names := ["java/lang/RuntimeException", "java/lang/Exception"]) (ik := 69) (is := 105) (ic := 73) hx hb htr ctr_ISE_0 ctr_ISE_1 ctr_ISE_2 ctr_ISE_5 hown (by decide) (by decide) (hts _ (wg_t kw_420)) (hts _ (wg_t kw_17)) (hX.2.2.2.2.2.1 4 ("LatticeKeys", 105, "no room for more keys") rfl) (hat_ISE hts hX.2) hS.1 (hl.1.trans hml.symm) dK_load_57 dK_load_60 dK_load_61 dK_load_63 dK_load_66 htab (Nat.le_of_ble_eq_true rfl) (Nat.le_of_ble_eq_true rfl) (Nat.le_of_ble_eq_true rfl) (Nat.le_of_ble_eq_true rfl) hlk (Nat.le_of_ble_eq_true rfl) (Nat.le_of_ble_eq_true rfl) (List.mem_cons_of_mem _ (List.mem_cons_of_mem _ List.mem_cons_self)) hS.2.2 (thr_st hX.2) (fun t hz9 hk9 => ⟨⟨((T, tl, al, pn), pl), ⟨⟨⟨(by show tl ≤ 16384; omega), (by show al ≤ 8192; omega), (by show pn ≤ 8; omega), hXT, hU⟩, trivial⟩, hO⟩, lc_P hP hk9, hD⟩, (lc_S hS hz9 hk9).F rfl⟩)
        · exact et_throw (own := "LatticeKeys") (cls := "java/lang/UnsupportedOperationException") (text := "the check of the key fails") (names := ["java/lang/RuntimeException", "java/lang/Exception"]) (ik := 137) (is := 139) (ic := 141) hx hb htr ctr_UOE_0 ctr_UOE_1 ctr_UOE_2 ctr_UOE_5 hown (by decide) (by decide) (hts _ (wg_t kw_789)) (hts _ (wg_t kw_25)) (hX.2.2.2.2.2.1 6 ("LatticeKeys", 139, "the check of the key fails") rfl) (hat_UOE hts hX.2) hS.1 (hl.1.trans hml.symm) dK_load_38 dK_load_41 dK_load_42 dK_load_44 dK_load_47 htab (Nat.le_of_ble_eq_true rfl) (Nat.le_of_ble_eq_true rfl) (Nat.le_of_ble_eq_true rfl) (Nat.le_of_ble_eq_true rfl) hlk (Nat.le_of_ble_eq_true rfl) (Nat.le_of_ble_eq_true rfl) (List.mem_cons_of_mem _ List.mem_cons_self) hS.2.2 (thr_st hX.2) (fun t hz9 hk9 => ⟨⟨((T, tl, al, pn), pl), ⟨⟨⟨(by show tl ≤ 16384; omega), (by show al ≤ 8192; omega), (by show pn ≤ 8; omega), hXT, hU⟩, trivial⟩, hO⟩, lc_P hP hk9, hD⟩, (lc_S hS hz9 hk9).F rfl⟩)
      · obtain ⟨hsc, h8, h9⟩ := hq21
        have h9 : tl = 1632 := h9
        refine lv_if_ne (tgt := 19) hx hb dK_load_6 (by decide) (fun h27 => ?_) (fun h27 => absurd h27 (by decide))
        refine lv_iload_n hx hb dK_load_19 rfl (lv_at hl 1 rfl) ?_
        refine lv_iconst (v := nI 3) hx hb dK_load_20 (by decide) ?_
        refine mi_ge (tgt := 48) hx hb dK_load_21 (by decide) (by omega) (by omega) (fun h28 => absurd h28 (by omega)) (fun h28 => ?_)
        refine lv_aload_n hx hb dK_load_24 rfl (lv_at hl 0 rfl) ?_
        refine lv_aload_n hx hb dK_load_25 rfl (lv_at hl 0 rfl) ?_
        refine va_get (D := g.1) (ci := 0) (C := "LatticeKeys") (T := T_K) (N := 11) hx hb hts (wg_ft i_K) hown hK hP 0 rfl rfl 6 (by decide) (hts _ (wg_t kw_380)) (fun _ h9 => h9) rfl dK_load_26 ?_
        refine lv_iload_n hx hb dK_load_29 rfl (lv_at hl 1 rfl) ?_
        refine ty_aald50 hx hb hK hO k_kks (nxg clo_nil k_kks rfl) hP (by omega) dK_load_30 (fun r26 kr24 => ?_)
        refine lv_iload_n hx hb dK_load_31 rfl (lv_at hl 2 rfl) ?_
        refine mp_i (cx := [(h0, .inr (0, [.ref kt, .int (nI tl), .ref ka, .int (nI al), .ref kp, .int (nI pn), .ref kks, .ref kds, .ref ksp, .ref kkm, .ref kda]))]) (wr := []) hP hD hS hA [0] [] rfl rfl rfl (by decide) (va_runV (As := [.ref r26, .int sc]) (rest := []) F (t_K_isSound_0 l g _ T  pl hO hU  r26 sc h0 kt ka kp kks kds ksp kkm kda tl al pn k_kt k_ka k_kp k_kks k_kds k_ksp k_kkm k_kda kr24 (by omega)) (cwV 2 hts (wg_app (wg_c kw_777 (wg_c kw_779 (wg_c ks_21 (wg_c kw_1 wg_n)))) kw_780) rfl rfl rfl (by decide +kernel) ⟨by decide, by decide⟩) (pp_V (en_ok g) (q0 := 0) hK hP hD hS hA hE [0] rfl rfl rfl rfl) rfl rfl hl.1 rfl (lv_room (Nat.le_of_ble_eq_true rfl)) dK_load_32 ⟨Nat.le_of_ble_eq_true rfl, Nat.le_of_ble_eq_true rfl⟩) (fun r27 pl H locs hu26 hP hD hS => ?_)
        obtain ⟨hq26, hO⟩ := hu26
        have hP : va_P g.1 vcl ([(h0, .inr (0, [.ref kt, .int (nI tl), .ref ka, .int (nI al), .ref kp, .int (nI pn), .ref kks, .ref kds, .ref ksp, .ref kkm, .ref kda]))] ++ pl) _ := hP
        have hD : va_D _ ([(h0, .inr (0, [.ref kt, .int (nI tl), .ref ka, .int (nI al), .ref kp, .int (nI pn), .ref kks, .ref kds, .ref ksp, .ref kkm, .ref kda]))] ++ pl) := hD
        refine W.widen (k := 0) (n := 0) (by omega) (by omega) ?_
        refine lv_if_ne (tgt := 48) hx hb dK_load_35 (by decide) (fun h29 => ?_) (fun h29 => ?_)
        · refine lv_aload_n hx hb dK_load_48 rfl (lv_at hl 0 rfl) ?_
          refine va_get (D := g.1) (ci := 0) (C := "LatticeKeys") (T := T_K) (N := 11) hx hb hts (wg_ft i_K) hown hK hP 0 rfl rfl 5 (by decide) (hts _ (wg_t kw_379)) (fun _ h9 => h9) rfl dK_load_49 ?_
          refine lv_bipush (v := nI 8) hx hb dK_load_52 (by decide) ?_
          refine mi_lt (tgt := 67) hx hb dK_load_54 (by decide) (by omega) (by omega) (fun h30 => ?_) (fun h30 => ?_)
          · refine lv_iload_n hx hb dK_load_67 rfl (lv_at hl 2 rfl) ?_
            refine lv_if_eq (tgt := 79) hx hb dK_load_68 (by decide) (fun h9 => absurd h9 hsc) (fun h9 => ?_)
            refine lv_aload_n hx hb dK_load_71 rfl (lv_at hl 0 rfl) ?_
            refine lv_iload_n hx hb dK_load_72 rfl (lv_at hl 1 rfl) ?_
            refine mp_q (cx := [(h0, .inr (0, [.ref kt, .int (nI tl), .ref ka, .int (nI al), .ref kp, .int (nI pn), .ref kks, .ref kds, .ref ksp, .ref kkm, .ref kda]))]) (wr := []) hP hD hS hA [0] [] rfl rfl rfl (by decide) (va_runV (As := [.int (nI 0)]) (rest := []) F (t_K_secretFromTape_0 l g _ T  pl hO hU  h0 kt ka kp kks kds ksp kkm kda tl al pn k_kt k_ka k_kp k_kks k_kds k_ksp k_kkm k_kda (by omega) (by omega)) (cwV 1 hts (wg_app (wg_c kw_805 (wg_c kw_807 (wg_c ks_22 (wg_c kw_1 wg_n)))) kw_808) rfl rfl rfl (by decide +kernel) ⟨by decide, by decide⟩) (pp_V (en_ok g) (q0 := 0) hK hP hD hS hA hE [0] rfl rfl rfl rfl) rfl rfl hl.1 rfl (lv_room (Nat.le_of_ble_eq_true rfl)) dK_load_73 ⟨Nat.le_of_ble_eq_true rfl, Nat.le_of_ble_eq_true rfl⟩) (fun r28 u22 H locs hu27 hP hD hS => ?_)
            obtain ⟨T, pl⟩ := u22
            obtain ⟨hq27, hO⟩ := hu27
            have hP : va_P g.1 vcl ([(h0, .inr (0, [.ref kt, .int (nI tl), .ref ka, .int (nI al), .ref kp, .int (nI pn), .ref kks, .ref kds, .ref ksp, .ref kkm, .ref kda]))] ++ pl) _ := hP
            have hD : va_D _ ([(h0, .inr (0, [.ref kt, .int (nI tl), .ref ka, .int (nI al), .ref kp, .int (nI pn), .ref kks, .ref kds, .ref ksp, .ref kkm, .ref kda]))] ++ pl) := hD
            obtain ⟨hxt23, hU, q23, rfl, kr25⟩ := hq27
            have k_kt := hxt23 _ _ k_kt
            have k_ka := hxt23 _ _ k_ka
            have k_kp := hxt23 _ _ k_kp
            have k_kks := hxt23 _ _ k_kks
            have k_kds := hxt23 _ _ k_kds
            have k_ksp := hxt23 _ _ k_ksp
            have k_kkm := hxt23 _ _ k_kkm
            have k_kda := hxt23 _ _ k_kda
            have kr24 := hxt23 _ _ kr24
            have hXT := ext_tr hXT hxt23
            refine W.widen (k := 3) (n := 7491) (by omega) (by omega) ?_
            refine lv_goto (tgt := 99) hx hb dK_load_76 (by decide) ?_
            refine lv_astore_n (lv' := [(3, .ref q23), (0, .ref h0), (1, .int (nI 0)), (2, .int sc)]) hx hb dK_load_99 rfl hl (by decide) rfl (fun ls hl => ?_)
            refine lv_aload_n hx hb dK_load_100 rfl (lv_at hl 1 rfl) ?_
            refine lv_iconst (v := nI 0) hx hb dK_load_101 (by decide) ?_
            refine va_put (D := g.1) (ci := 0) (v := .int (nI 0)) (ty := .int) (C := "LatticeKeys") (T := T_K) (N := 11) hx hb hts (wg_ft i_K) ty_K k_K n_K hown hK hP hD hS 0 rfl rfl 1 (by decide) (hts _ (wg_t kw_375)) (fun _ h9 => h9) rfl (by decide +kernel) rfl rfl (Nat.le_of_ble_eq_true rfl) dK_load_102 (fun H locs hP hD hS => ?_)
            have hP : va_P g.1 vcl ([(h0, .inr (0, [.ref kt, .int (nI 0), .ref ka, .int (nI al), .ref kp, .int (nI pn), .ref kks, .ref kds, .ref ksp, .ref kkm, .ref kda]))] ++ pl) _ := hP
            have hD : va_D _ ([(h0, .inr (0, [.ref kt, .int (nI 0), .ref ka, .int (nI al), .ref kp, .int (nI pn), .ref kks, .ref kds, .ref ksp, .ref kkm, .ref kda]))] ++ pl) := hD
            refine lv_aload_n hx hb dK_load_105 rfl (lv_at hl 1 rfl) ?_
            refine lv_aload_n hx hb dK_load_106 rfl (lv_at hl 0 rfl) ?_
            refine mp_i (cx := [(h0, .inr (0, [.ref kt, .int (nI 0), .ref ka, .int (nI al), .ref kp, .int (nI pn), .ref kks, .ref kds, .ref ksp, .ref kkm, .ref kda]))]) (wr := []) hP hD hS hA [0] [] rfl rfl rfl (by decide) (va_runV (As := [.ref q23]) (rest := []) F (t_K_keep17 l g _ T  pl hO hU  q23 0 h0 kt ka kp kks kds ksp kkm kda 0 al pn k_kt k_ka k_kp k_kks k_kds k_ksp k_kkm k_kda kr25 (by omega) (by omega) (by omega)) (cwV 1 hts (wg_app (wg_c kw_760 (wg_c kw_762 (wg_c ks_19 (wg_c kw_1 wg_n)))) kw_763) rfl rfl rfl (by decide +kernel) ⟨by decide, by decide⟩) (pp_V (en_ok g) (q0 := 0) hK hP hD hS hA hE [0] rfl rfl rfl rfl) rfl rfl hl.1 rfl (lv_room (Nat.le_of_ble_eq_true rfl)) dK_load_107 ⟨Nat.le_of_ble_eq_true rfl, Nat.le_of_ble_eq_true rfl⟩) (fun r29 pl H locs hu28 hP hD hS => ?_)
            obtain ⟨hq28, hO⟩ := hu28
            have hP : va_P g.1 vcl ([(h0, .inr (0, [.ref kt, .int (nI 0), .ref ka, .int (nI al), .ref kp, .int (nI (pn + 1)), .ref kks, .ref kds, .ref ksp, .ref kkm, .ref kda]))] ++ pl) _ := hP
            have hD : va_D _ ([(h0, .inr (0, [.ref kt, .int (nI 0), .ref ka, .int (nI al), .ref kp, .int (nI (pn + 1)), .ref kks, .ref kds, .ref ksp, .ref kkm, .ref kda]))] ++ pl) := hD
            obtain rfl := hq28
            refine W.widen (k := 3) (n := 7491) (by omega) (by omega) ?_
            refine et_ret ?_
            exact mp_iret hx hb hr hlk hP hD hS ((T, 0, al, pn + 1), pl) ⟨⟨⟨(by show 0 ≤ 16384; omega), (by show al ≤ 8192; omega), (by show pn + 1 ≤ 8; omega), hXT, hU⟩, trivial⟩, hO⟩ [0] rfl rfl rfl (by omega) (by omega) dK_load_110
          · exact et_throw (own := "LatticeKeys") (cls := "java/lang/IllegalStateException") (text := "no room for more keys") (names := ["java/lang/RuntimeException", "java/lang/Exception"]) (ik := 69) (is := 105) (ic := 73) hx hb htr ctr_ISE_0 ctr_ISE_1 ctr_ISE_2 ctr_ISE_5 hown (by decide) (by decide) (hts _ (wg_t kw_420)) (hts _ (wg_t kw_17)) (hX.2.2.2.2.2.1 4 ("LatticeKeys", 105, "no room for more keys") rfl) (hat_ISE hts hX.2) hS.1 (hl.1.trans hml.symm) dK_load_57 dK_load_60 dK_load_61 dK_load_63 dK_load_66 htab (Nat.le_of_ble_eq_true rfl) (Nat.le_of_ble_eq_true rfl) (Nat.le_of_ble_eq_true rfl) (Nat.le_of_ble_eq_true rfl) hlk (Nat.le_of_ble_eq_true rfl) (Nat.le_of_ble_eq_true rfl) (List.mem_cons_of_mem _ (List.mem_cons_of_mem _ List.mem_cons_self)) hS.2.2 (thr_st hX.2) (fun t hz9 hk9 => ⟨⟨((T, tl, al, pn), pl), ⟨⟨⟨(by show tl ≤ 16384; omega), (by show al ≤ 8192; omega), (by show pn ≤ 8; omega), hXT, hU⟩, trivial⟩, hO⟩, lc_P hP hk9, hD⟩, (lc_S hS hz9 hk9).F rfl⟩)
        · exact et_throw (own := "LatticeKeys") (cls := "java/lang/UnsupportedOperationException") (text := "the check of the key fails") (names := ["java/lang/RuntimeException", "java/lang/Exception"]) (ik := 137) (is := 139) (ic := 141) hx hb htr ctr_UOE_0 ctr_UOE_1 ctr_UOE_2 ctr_UOE_5 hown (by decide) (by decide) (hts _ (wg_t kw_789)) (hts _ (wg_t kw_25)) (hX.2.2.2.2.2.1 6 ("LatticeKeys", 139, "the check of the key fails") rfl) (hat_UOE hts hX.2) hS.1 (hl.1.trans hml.symm) dK_load_38 dK_load_41 dK_load_42 dK_load_44 dK_load_47 htab (Nat.le_of_ble_eq_true rfl) (Nat.le_of_ble_eq_true rfl) (Nat.le_of_ble_eq_true rfl) (Nat.le_of_ble_eq_true rfl) hlk (Nat.le_of_ble_eq_true rfl) (Nat.le_of_ble_eq_true rfl) (List.mem_cons_of_mem _ List.mem_cons_self) hS.2.2 (thr_st hX.2) (fun t hz9 hk9 => ⟨⟨((T, tl, al, pn), pl), ⟨⟨⟨(by show tl ≤ 16384; omega), (by show al ≤ 8192; omega), (by show pn ≤ 8; omega), hXT, hU⟩, trivial⟩, hO⟩, lc_P hP hk9, hD⟩, (lc_S hS hz9 hk9).F rfl⟩)
    | 1, _, hq9 =>
      have hq21 := hq9
      rcases hq21 with hq21 | hq21
      · obtain ⟨rfl, h9⟩ := hq21
        have h9 : tl = 1184 := h9
        refine lv_if_ne (tgt := 19) hx hb dK_load_6 (by decide) (fun h31 => ?_) (fun h31 => absurd h31 (by decide))
        refine lv_iload_n hx hb dK_load_19 rfl (lv_at hl 1 rfl) ?_
        refine lv_iconst (v := nI 3) hx hb dK_load_20 (by decide) ?_
        refine mi_ge (tgt := 48) hx hb dK_load_21 (by decide) (by omega) (by omega) (fun h32 => absurd h32 (by omega)) (fun h32 => ?_)
        refine lv_aload_n hx hb dK_load_24 rfl (lv_at hl 0 rfl) ?_
        refine lv_aload_n hx hb dK_load_25 rfl (lv_at hl 0 rfl) ?_
        refine va_get (D := g.1) (ci := 0) (C := "LatticeKeys") (T := T_K) (N := 11) hx hb hts (wg_ft i_K) hown hK hP 0 rfl rfl 6 (by decide) (hts _ (wg_t kw_380)) (fun _ h9 => h9) rfl dK_load_26 ?_
        refine lv_iload_n hx hb dK_load_29 rfl (lv_at hl 1 rfl) ?_
        refine ty_aald50 hx hb hK hO k_kks (nxg clo_nil k_kks rfl) hP (by omega) dK_load_30 (fun r30 kr26 => ?_)
        refine lv_iload_n hx hb dK_load_31 rfl (lv_at hl 2 rfl) ?_
        refine mp_i (cx := [(h0, .inr (0, [.ref kt, .int (nI tl), .ref ka, .int (nI al), .ref kp, .int (nI pn), .ref kks, .ref kds, .ref ksp, .ref kkm, .ref kda]))]) (wr := []) hP hD hS hA [0] [] rfl rfl rfl (by decide) (va_runV (As := [.ref r30, .int (nI 0)]) (rest := []) F (t_K_isSound_1 l g _ T  pl hO hU  r30 (nI 0) h0 kt ka kp kks kds ksp kkm kda tl al pn k_kt k_ka k_kp k_kks k_kds k_ksp k_kkm k_kda kr26 (by omega)) (cwV 2 hts (wg_app (wg_c kw_777 (wg_c kw_779 (wg_c ks_21 (wg_c kw_1 wg_n)))) kw_780) rfl rfl rfl (by decide +kernel) ⟨by decide, by decide⟩) (pp_V (en_ok g) (q0 := 0) hK hP hD hS hA hE [0] rfl rfl rfl rfl) rfl rfl hl.1 rfl (lv_room (Nat.le_of_ble_eq_true rfl)) dK_load_32 ⟨Nat.le_of_ble_eq_true rfl, Nat.le_of_ble_eq_true rfl⟩) (fun r31 pl H locs hu29 hP hD hS => ?_)
        obtain ⟨hq29, hO⟩ := hu29
        have hP : va_P g.1 vcl ([(h0, .inr (0, [.ref kt, .int (nI tl), .ref ka, .int (nI al), .ref kp, .int (nI pn), .ref kks, .ref kds, .ref ksp, .ref kkm, .ref kda]))] ++ pl) _ := hP
        have hD : va_D _ ([(h0, .inr (0, [.ref kt, .int (nI tl), .ref ka, .int (nI al), .ref kp, .int (nI pn), .ref kks, .ref kds, .ref ksp, .ref kkm, .ref kda]))] ++ pl) := hD
        refine W.widen (k := 0) (n := 0) (by omega) (by omega) ?_
        refine lv_if_ne (tgt := 48) hx hb dK_load_35 (by decide) (fun h33 => ?_) (fun h33 => ?_)
        · refine lv_aload_n hx hb dK_load_48 rfl (lv_at hl 0 rfl) ?_
          refine va_get (D := g.1) (ci := 0) (C := "LatticeKeys") (T := T_K) (N := 11) hx hb hts (wg_ft i_K) hown hK hP 0 rfl rfl 5 (by decide) (hts _ (wg_t kw_379)) (fun _ h9 => h9) rfl dK_load_49 ?_
          refine lv_bipush (v := nI 8) hx hb dK_load_52 (by decide) ?_
          refine mi_lt (tgt := 67) hx hb dK_load_54 (by decide) (by omega) (by omega) (fun h34 => ?_) (fun h34 => ?_)
          · refine lv_iload_n hx hb dK_load_67 rfl (lv_at hl 2 rfl) ?_
            refine lv_if_eq (tgt := 79) hx hb dK_load_68 (by decide) (fun h35 => ?_) (fun h35 => absurd h35 (by decide))
            refine va_new (ws := [(h0, .inr (0, [.ref kt, .int (nI tl), .ref ka, .int (nI al), .ref kp, .int (nI pn), .ref kks, .ref kds, .ref ksp, .ref kkm, .ref kda]))] ++ pl) (ci := 13) (fs := [.int 0, .null, .null]) (C := "LatticeKeys$KeyPair") (T := T_KP) (N := 3) hx hb hts (wg_ft i_KP) ty_KP k_KP hown (hts _ (wg_t kw_43)) (hts _ (wg_t kw_740)) (hts _ (wg_t kw_24)) hK hP hD hS hA rfl z_KP (Nat.le_of_ble_eq_true rfl) (Nat.le_of_ble_eq_true rfl) dK_load_79 (fun q24 H hP hD hS => ?_)
            obtain ⟨hP, hD⟩ := mv_first hP hD
            have hP : va_P g.1 vcl ([(h0, .inr (0, [.ref kt, .int (nI tl), .ref ka, .int (nI al), .ref kp, .int (nI pn), .ref kks, .ref kds, .ref ksp, .ref kkm, .ref kda])), (q24, .inr (13, [.int 0, .null, .null]))] ++ pl) _ := hP
            have hD : va_D _ ([(h0, .inr (0, [.ref kt, .int (nI tl), .ref ka, .int (nI al), .ref kp, .int (nI pn), .ref kks, .ref kds, .ref ksp, .ref kkm, .ref kda])), (q24, .inr (13, [.int 0, .null, .null]))] ++ pl) := hD
            refine W.widen (k := 1) (n := 3) (by omega) (by omega) ?_
            refine lv_dup hx hb dK_load_82 rfl ?_
            refine lv_iload_n hx hb dK_load_83 rfl (lv_at hl 1 rfl) ?_
            refine lv_aload_n hx hb dK_load_84 rfl (lv_at hl 0 rfl) ?_
            refine va_get (D := g.1) (ci := 0) (C := "LatticeKeys") (T := T_K) (N := 11) hx hb hts (wg_ft i_K) hown hK hP 0 rfl rfl 0 (by decide) (hts _ (wg_t kw_374)) (fun _ h9 => h9) rfl dK_load_85 ?_
            refine lv_aload_n hx hb dK_load_88 rfl (lv_at hl 0 rfl) ?_
            refine va_get (D := g.1) (ci := 0) (C := "LatticeKeys") (T := T_K) (N := 11) hx hb hts (wg_ft i_K) hown hK hP 0 rfl rfl 1 (by decide) (hts _ (wg_t kw_375)) (fun _ h9 => h9) rfl dK_load_89 ?_
            refine mp_q (cx := []) (wr := [(h0, .inr (0, [.ref kt, .int (nI tl), .ref ka, .int (nI al), .ref kp, .int (nI pn), .ref kks, .ref kds, .ref ksp, .ref kkm, .ref kda])), (q24, .inr (13, [.int 0, .null, .null]))]) hP hD hS hA [] [0, 1] rfl rfl rfl (by decide) (va_runS (As := [.ref kt, .int (nI tl)]) (rest := [.int (nI 1), .ref q24, .ref q24]) F (t_AR_copyOf l g _ T  pl hO hU  kt 16384 tl k_kt (by omega) (by omega) (by omega)) (va_cwS 2 hts (wg_app (wg_c kw_1047 (wg_c kw_880 (wg_c kw_21 wg_n))) kw_881) rfl rfl rfl (by decide +kernel) ⟨by decide, by decide⟩) (pp_S (en_ok g) hP hD hS hA hE [] rfl rfl) rfl rfl hl.1 rfl (lv_room (Nat.le_of_ble_eq_true rfl)) dK_load_92 ⟨Nat.le_of_ble_eq_true rfl, Nat.le_of_ble_eq_true rfl⟩) (fun r32 u23 H locs hu30 hP hD hS => ?_)
            obtain ⟨T, pl⟩ := u23
            obtain ⟨hq30, hO⟩ := hu30
            have hP : va_P g.1 vcl ([(h0, .inr (0, [.ref kt, .int (nI tl), .ref ka, .int (nI al), .ref kp, .int (nI pn), .ref kks, .ref kds, .ref ksp, .ref kkm, .ref kda])), (q24, .inr (13, [.int 0, .null, .null]))] ++ pl) _ := hP
            have hD : va_D _ ([(h0, .inr (0, [.ref kt, .int (nI tl), .ref ka, .int (nI al), .ref kp, .int (nI pn), .ref kks, .ref kds, .ref ksp, .ref kkm, .ref kda])), (q24, .inr (13, [.int 0, .null, .null]))] ++ pl) := hD
            obtain ⟨hxt24, hU, q25, rfl, kr27⟩ := hq30
            have k_kt := hxt24 _ _ k_kt
            have k_ka := hxt24 _ _ k_ka
            have k_kp := hxt24 _ _ k_kp
            have k_kks := hxt24 _ _ k_kks
            have k_kds := hxt24 _ _ k_kds
            have k_ksp := hxt24 _ _ k_ksp
            have k_kkm := hxt24 _ _ k_kkm
            have k_kda := hxt24 _ _ k_kda
            have kr26 := hxt24 _ _ kr26
            have hXT := ext_tr hXT hxt24
            refine W.widen (k := 2) (n := 4899) (by omega) (by omega) ?_
            refine lv_null hx hb dK_load_95 ?_
            refine mp_v (cx := [(q24, .inr (13, [.int 0, .null, .null]))]) (wr := [(h0, .inr (0, [.ref kt, .int (nI tl), .ref ka, .int (nI al), .ref kp, .int (nI pn), .ref kks, .ref kds, .ref ksp, .ref kkm, .ref kda]))]) hP hD hS hA [1] [0] rfl rfl rfl (by decide) (va_runI (As := [.int (nI 1), .ref q25, .null]) (rest := [.ref q24]) F (t_KP_init16 l g _ T  pl hO hU  (nI 1) q24 q25) (cwI 3 hts (wg_in kw_743) rfl rfl rfl (hts _ (wg_t kw_24)) (hts _ (wg_t kw_741)) (hts _ (wg_t kw_742)) rfl (by decide +kernel) ⟨by decide, by decide⟩) (pp_S (en_ok g) hP hD hS hA hE [1] rfl rfl) rfl rfl hl.1 rfl (lv_room (Nat.le_of_ble_eq_true rfl)) dK_load_96 ⟨Nat.le_of_ble_eq_true rfl, Nat.le_of_ble_eq_true rfl⟩) (fun  pl H locs hu31 hP hD hS => ?_)
            obtain ⟨hq31, hO⟩ := hu31
            have hP : va_P g.1 vcl ([(h0, .inr (0, [.ref kt, .int (nI tl), .ref ka, .int (nI al), .ref kp, .int (nI pn), .ref kks, .ref kds, .ref ksp, .ref kkm, .ref kda])), (q24, .inr (13, [.int (nI 1), .ref q25, .null]))] ++ pl) _ := hP
            have hD : va_D _ ([(h0, .inr (0, [.ref kt, .int (nI tl), .ref ka, .int (nI al), .ref kp, .int (nI pn), .ref kks, .ref kds, .ref ksp, .ref kkm, .ref kda])), (q24, .inr (13, [.int (nI 1), .ref q25, .null]))] ++ pl) := hD
            refine W.widen (k := 2) (n := 4899) (by omega) (by omega) ?_
            obtain ⟨hP, hD⟩ := mv_last (X := [(h0, .inr (0, [.ref kt, .int (nI tl), .ref ka, .int (nI al), .ref kp, .int (nI pn), .ref kks, .ref kds, .ref ksp, .ref kkm, .ref kda]))]) (c := (q24, .inr (13, [.int (nI 1), .ref q25, .null]))) hP hD
            obtain ⟨T, pl, hxt25, hU, kr28, hO, hP, hD, hnk22⟩ := absorb (X := [(h0, .inr (0, [.ref kt, .int (nI tl), .ref ka, .int (nI al), .ref kp, .int (nI pn), .ref kks, .ref kds, .ref ksp, .ref kkm, .ref kda]))]) (16, 1) hP hD hO hU (Or.inl rfl) (fun T9 h9 _ => ⟨_, rfl, ⟨rfl, ⟨_, rfl, (by have h8 := h9 _ _ kr27; rw [show tl = 1184 by omega] at h8; exact h8)⟩, rfl, trivial⟩⟩)
            have k_kt := hxt25 _ _ k_kt
            have k_ka := hxt25 _ _ k_ka
            have k_kp := hxt25 _ _ k_kp
            have k_kks := hxt25 _ _ k_kks
            have k_kds := hxt25 _ _ k_kds
            have k_ksp := hxt25 _ _ k_ksp
            have k_kkm := hxt25 _ _ k_kkm
            have k_kda := hxt25 _ _ k_kda
            have kr26 := hxt25 _ _ kr26
            have kr27 := hxt25 _ _ kr27
            have hXT := ext_tr hXT hxt25
            have hP : va_P g.1 vcl ([(h0, .inr (0, [.ref kt, .int (nI tl), .ref ka, .int (nI al), .ref kp, .int (nI pn), .ref kks, .ref kds, .ref ksp, .ref kkm, .ref kda]))] ++ pl) _ := hP
            have hD : va_D _ ([(h0, .inr (0, [.ref kt, .int (nI tl), .ref ka, .int (nI al), .ref kp, .int (nI pn), .ref kks, .ref kds, .ref ksp, .ref kkm, .ref kda]))] ++ pl) := hD
            refine lv_astore_n (lv' := [(3, .ref q24), (0, .ref h0), (1, .int (nI 1)), (2, .int (nI 0))]) hx hb dK_load_99 rfl hl (by decide) rfl (fun ls hl => ?_)
            refine lv_aload_n hx hb dK_load_100 rfl (lv_at hl 1 rfl) ?_
            refine lv_iconst (v := nI 0) hx hb dK_load_101 (by decide) ?_
            refine va_put (D := g.1) (ci := 0) (v := .int (nI 0)) (ty := .int) (C := "LatticeKeys") (T := T_K) (N := 11) hx hb hts (wg_ft i_K) ty_K k_K n_K hown hK hP hD hS 0 rfl rfl 1 (by decide) (hts _ (wg_t kw_375)) (fun _ h9 => h9) rfl (by decide +kernel) rfl rfl (Nat.le_of_ble_eq_true rfl) dK_load_102 (fun H locs hP hD hS => ?_)
            have hP : va_P g.1 vcl ([(h0, .inr (0, [.ref kt, .int (nI 0), .ref ka, .int (nI al), .ref kp, .int (nI pn), .ref kks, .ref kds, .ref ksp, .ref kkm, .ref kda]))] ++ pl) _ := hP
            have hD : va_D _ ([(h0, .inr (0, [.ref kt, .int (nI 0), .ref ka, .int (nI al), .ref kp, .int (nI pn), .ref kks, .ref kds, .ref ksp, .ref kkm, .ref kda]))] ++ pl) := hD
            refine lv_aload_n hx hb dK_load_105 rfl (lv_at hl 1 rfl) ?_
            refine lv_aload_n hx hb dK_load_106 rfl (lv_at hl 0 rfl) ?_
            refine mp_i (cx := [(h0, .inr (0, [.ref kt, .int (nI 0), .ref ka, .int (nI al), .ref kp, .int (nI pn), .ref kks, .ref kds, .ref ksp, .ref kkm, .ref kda]))]) (wr := []) hP hD hS hA [0] [] rfl rfl rfl (by decide) (va_runV (As := [.ref q24]) (rest := []) F (t_K_keep16 l g _ T  pl hO hU  q24 1 h0 kt ka kp kks kds ksp kkm kda 0 al pn k_kt k_ka k_kp k_kks k_kds k_ksp k_kkm k_kda kr28 (by omega) (by omega) (by omega)) (cwV 1 hts (wg_app (wg_c kw_760 (wg_c kw_762 (wg_c ks_19 (wg_c kw_1 wg_n)))) kw_763) rfl rfl rfl (by decide +kernel) ⟨by decide, by decide⟩) (pp_V (en_ok g) (q0 := 0) hK hP hD hS hA hE [0] rfl rfl rfl rfl) rfl rfl hl.1 rfl (lv_room (Nat.le_of_ble_eq_true rfl)) dK_load_107 ⟨Nat.le_of_ble_eq_true rfl, Nat.le_of_ble_eq_true rfl⟩) (fun r33 pl H locs hu32 hP hD hS => ?_)
            obtain ⟨hq32, hO⟩ := hu32
            have hP : va_P g.1 vcl ([(h0, .inr (0, [.ref kt, .int (nI 0), .ref ka, .int (nI al), .ref kp, .int (nI (pn + 1)), .ref kks, .ref kds, .ref ksp, .ref kkm, .ref kda]))] ++ pl) _ := hP
            have hD : va_D _ ([(h0, .inr (0, [.ref kt, .int (nI 0), .ref ka, .int (nI al), .ref kp, .int (nI (pn + 1)), .ref kks, .ref kds, .ref ksp, .ref kkm, .ref kda]))] ++ pl) := hD
            obtain rfl := hq32
            refine W.widen (k := 2) (n := 4899) (by omega) (by omega) ?_
            refine et_ret ?_
            exact mp_iret hx hb hr hlk hP hD hS ((T, 0, al, pn + 1), pl) ⟨⟨⟨(by show 0 ≤ 16384; omega), (by show al ≤ 8192; omega), (by show pn + 1 ≤ 8; omega), hXT, hU⟩, trivial⟩, hO⟩ [0] rfl rfl rfl (by omega) (by omega) dK_load_110
          · exact et_throw (own := "LatticeKeys") (cls := "java/lang/IllegalStateException") (text := "no room for more keys") (names := ["java/lang/RuntimeException", "java/lang/Exception"]) (ik := 69) (is := 105) (ic := 73) hx hb htr ctr_ISE_0 ctr_ISE_1 ctr_ISE_2 ctr_ISE_5 hown (by decide) (by decide) (hts _ (wg_t kw_420)) (hts _ (wg_t kw_17)) (hX.2.2.2.2.2.1 4 ("LatticeKeys", 105, "no room for more keys") rfl) (hat_ISE hts hX.2) hS.1 (hl.1.trans hml.symm) dK_load_57 dK_load_60 dK_load_61 dK_load_63 dK_load_66 htab (Nat.le_of_ble_eq_true rfl) (Nat.le_of_ble_eq_true rfl) (Nat.le_of_ble_eq_true rfl) (Nat.le_of_ble_eq_true rfl) hlk (Nat.le_of_ble_eq_true rfl) (Nat.le_of_ble_eq_true rfl) (List.mem_cons_of_mem _ (List.mem_cons_of_mem _ List.mem_cons_self)) hS.2.2 (thr_st hX.2) (fun t hz9 hk9 => ⟨⟨((T, tl, al, pn), pl), ⟨⟨⟨(by show tl ≤ 16384; omega), (by show al ≤ 8192; omega), (by show pn ≤ 8; omega), hXT, hU⟩, trivial⟩, hO⟩, lc_P hP hk9, hD⟩, (lc_S hS hz9 hk9).F rfl⟩)
        · exact et_throw (own := "LatticeKeys") (cls := "java/lang/UnsupportedOperationException") (text := "the check of the key fails") (names := ["java/lang/RuntimeException", "java/lang/Exception"]) (ik := 137) (is := 139) (ic := 141) hx hb htr ctr_UOE_0 ctr_UOE_1 ctr_UOE_2 ctr_UOE_5 hown (by decide) (by decide) (hts _ (wg_t kw_789)) (hts _ (wg_t kw_25)) (hX.2.2.2.2.2.1 6 ("LatticeKeys", 139, "the check of the key fails") rfl) (hat_UOE hts hX.2) hS.1 (hl.1.trans hml.symm) dK_load_38 dK_load_41 dK_load_42 dK_load_44 dK_load_47 htab (Nat.le_of_ble_eq_true rfl) (Nat.le_of_ble_eq_true rfl) (Nat.le_of_ble_eq_true rfl) (Nat.le_of_ble_eq_true rfl) hlk (Nat.le_of_ble_eq_true rfl) (Nat.le_of_ble_eq_true rfl) (List.mem_cons_of_mem _ List.mem_cons_self) hS.2.2 (thr_st hX.2) (fun t hz9 hk9 => ⟨⟨((T, tl, al, pn), pl), ⟨⟨⟨(by show tl ≤ 16384; omega), (by show al ≤ 8192; omega), (by show pn ≤ 8; omega), hXT, hU⟩, trivial⟩, hO⟩, lc_P hP hk9, hD⟩, (lc_S hS hz9 hk9).F rfl⟩)
      · obtain ⟨hsc, h8, h9⟩ := hq21
        have h9 : tl = 2400 := h9
        refine lv_if_ne (tgt := 19) hx hb dK_load_6 (by decide) (fun h36 => ?_) (fun h36 => absurd h36 (by decide))
        refine lv_iload_n hx hb dK_load_19 rfl (lv_at hl 1 rfl) ?_
        refine lv_iconst (v := nI 3) hx hb dK_load_20 (by decide) ?_
        refine mi_ge (tgt := 48) hx hb dK_load_21 (by decide) (by omega) (by omega) (fun h37 => absurd h37 (by omega)) (fun h37 => ?_)
        refine lv_aload_n hx hb dK_load_24 rfl (lv_at hl 0 rfl) ?_
        refine lv_aload_n hx hb dK_load_25 rfl (lv_at hl 0 rfl) ?_
        refine va_get (D := g.1) (ci := 0) (C := "LatticeKeys") (T := T_K) (N := 11) hx hb hts (wg_ft i_K) hown hK hP 0 rfl rfl 6 (by decide) (hts _ (wg_t kw_380)) (fun _ h9 => h9) rfl dK_load_26 ?_
        refine lv_iload_n hx hb dK_load_29 rfl (lv_at hl 1 rfl) ?_
        refine ty_aald50 hx hb hK hO k_kks (nxg clo_nil k_kks rfl) hP (by omega) dK_load_30 (fun r34 kr29 => ?_)
        refine lv_iload_n hx hb dK_load_31 rfl (lv_at hl 2 rfl) ?_
        refine mp_i (cx := [(h0, .inr (0, [.ref kt, .int (nI tl), .ref ka, .int (nI al), .ref kp, .int (nI pn), .ref kks, .ref kds, .ref ksp, .ref kkm, .ref kda]))]) (wr := []) hP hD hS hA [0] [] rfl rfl rfl (by decide) (va_runV (As := [.ref r34, .int sc]) (rest := []) F (t_K_isSound_1 l g _ T  pl hO hU  r34 sc h0 kt ka kp kks kds ksp kkm kda tl al pn k_kt k_ka k_kp k_kks k_kds k_ksp k_kkm k_kda kr29 (by omega)) (cwV 2 hts (wg_app (wg_c kw_777 (wg_c kw_779 (wg_c ks_21 (wg_c kw_1 wg_n)))) kw_780) rfl rfl rfl (by decide +kernel) ⟨by decide, by decide⟩) (pp_V (en_ok g) (q0 := 0) hK hP hD hS hA hE [0] rfl rfl rfl rfl) rfl rfl hl.1 rfl (lv_room (Nat.le_of_ble_eq_true rfl)) dK_load_32 ⟨Nat.le_of_ble_eq_true rfl, Nat.le_of_ble_eq_true rfl⟩) (fun r35 pl H locs hu33 hP hD hS => ?_)
        obtain ⟨hq33, hO⟩ := hu33
        have hP : va_P g.1 vcl ([(h0, .inr (0, [.ref kt, .int (nI tl), .ref ka, .int (nI al), .ref kp, .int (nI pn), .ref kks, .ref kds, .ref ksp, .ref kkm, .ref kda]))] ++ pl) _ := hP
        have hD : va_D _ ([(h0, .inr (0, [.ref kt, .int (nI tl), .ref ka, .int (nI al), .ref kp, .int (nI pn), .ref kks, .ref kds, .ref ksp, .ref kkm, .ref kda]))] ++ pl) := hD
        refine W.widen (k := 0) (n := 0) (by omega) (by omega) ?_
        refine lv_if_ne (tgt := 48) hx hb dK_load_35 (by decide) (fun h38 => ?_) (fun h38 => ?_)
        · refine lv_aload_n hx hb dK_load_48 rfl (lv_at hl 0 rfl) ?_
          refine va_get (D := g.1) (ci := 0) (C := "LatticeKeys") (T := T_K) (N := 11) hx hb hts (wg_ft i_K) hown hK hP 0 rfl rfl 5 (by decide) (hts _ (wg_t kw_379)) (fun _ h9 => h9) rfl dK_load_49 ?_
          refine lv_bipush (v := nI 8) hx hb dK_load_52 (by decide) ?_
          refine mi_lt (tgt := 67) hx hb dK_load_54 (by decide) (by omega) (by omega) (fun h39 => ?_) (fun h39 => ?_)
          · refine lv_iload_n hx hb dK_load_67 rfl (lv_at hl 2 rfl) ?_
            refine lv_if_eq (tgt := 79) hx hb dK_load_68 (by decide) (fun h9 => absurd h9 hsc) (fun h9 => ?_)
            refine lv_aload_n hx hb dK_load_71 rfl (lv_at hl 0 rfl) ?_
            refine lv_iload_n hx hb dK_load_72 rfl (lv_at hl 1 rfl) ?_
            refine mp_q (cx := [(h0, .inr (0, [.ref kt, .int (nI tl), .ref ka, .int (nI al), .ref kp, .int (nI pn), .ref kks, .ref kds, .ref ksp, .ref kkm, .ref kda]))]) (wr := []) hP hD hS hA [0] [] rfl rfl rfl (by decide) (va_runV (As := [.int (nI 1)]) (rest := []) F (t_K_secretFromTape_1 l g _ T  pl hO hU  h0 kt ka kp kks kds ksp kkm kda tl al pn k_kt k_ka k_kp k_kks k_kds k_ksp k_kkm k_kda (by omega) (by omega)) (cwV 1 hts (wg_app (wg_c kw_805 (wg_c kw_807 (wg_c ks_22 (wg_c kw_1 wg_n)))) kw_808) rfl rfl rfl (by decide +kernel) ⟨by decide, by decide⟩) (pp_V (en_ok g) (q0 := 0) hK hP hD hS hA hE [0] rfl rfl rfl rfl) rfl rfl hl.1 rfl (lv_room (Nat.le_of_ble_eq_true rfl)) dK_load_73 ⟨Nat.le_of_ble_eq_true rfl, Nat.le_of_ble_eq_true rfl⟩) (fun r36 u24 H locs hu34 hP hD hS => ?_)
            obtain ⟨T, pl⟩ := u24
            obtain ⟨hq34, hO⟩ := hu34
            have hP : va_P g.1 vcl ([(h0, .inr (0, [.ref kt, .int (nI tl), .ref ka, .int (nI al), .ref kp, .int (nI pn), .ref kks, .ref kds, .ref ksp, .ref kkm, .ref kda]))] ++ pl) _ := hP
            have hD : va_D _ ([(h0, .inr (0, [.ref kt, .int (nI tl), .ref ka, .int (nI al), .ref kp, .int (nI pn), .ref kks, .ref kds, .ref ksp, .ref kkm, .ref kda]))] ++ pl) := hD
            obtain ⟨hxt26, hU, q26, rfl, kr30⟩ := hq34
            have k_kt := hxt26 _ _ k_kt
            have k_ka := hxt26 _ _ k_ka
            have k_kp := hxt26 _ _ k_kp
            have k_kks := hxt26 _ _ k_kks
            have k_kds := hxt26 _ _ k_kds
            have k_ksp := hxt26 _ _ k_ksp
            have k_kkm := hxt26 _ _ k_kkm
            have k_kda := hxt26 _ _ k_kda
            have kr29 := hxt26 _ _ kr29
            have hXT := ext_tr hXT hxt26
            refine W.widen (k := 3) (n := 7491) (by omega) (by omega) ?_
            refine lv_goto (tgt := 99) hx hb dK_load_76 (by decide) ?_
            refine lv_astore_n (lv' := [(3, .ref q26), (0, .ref h0), (1, .int (nI 1)), (2, .int sc)]) hx hb dK_load_99 rfl hl (by decide) rfl (fun ls hl => ?_)
            refine lv_aload_n hx hb dK_load_100 rfl (lv_at hl 1 rfl) ?_
            refine lv_iconst (v := nI 0) hx hb dK_load_101 (by decide) ?_
            refine va_put (D := g.1) (ci := 0) (v := .int (nI 0)) (ty := .int) (C := "LatticeKeys") (T := T_K) (N := 11) hx hb hts (wg_ft i_K) ty_K k_K n_K hown hK hP hD hS 0 rfl rfl 1 (by decide) (hts _ (wg_t kw_375)) (fun _ h9 => h9) rfl (by decide +kernel) rfl rfl (Nat.le_of_ble_eq_true rfl) dK_load_102 (fun H locs hP hD hS => ?_)
            have hP : va_P g.1 vcl ([(h0, .inr (0, [.ref kt, .int (nI 0), .ref ka, .int (nI al), .ref kp, .int (nI pn), .ref kks, .ref kds, .ref ksp, .ref kkm, .ref kda]))] ++ pl) _ := hP
            have hD : va_D _ ([(h0, .inr (0, [.ref kt, .int (nI 0), .ref ka, .int (nI al), .ref kp, .int (nI pn), .ref kks, .ref kds, .ref ksp, .ref kkm, .ref kda]))] ++ pl) := hD
            refine lv_aload_n hx hb dK_load_105 rfl (lv_at hl 1 rfl) ?_
            refine lv_aload_n hx hb dK_load_106 rfl (lv_at hl 0 rfl) ?_
            refine mp_i (cx := [(h0, .inr (0, [.ref kt, .int (nI 0), .ref ka, .int (nI al), .ref kp, .int (nI pn), .ref kks, .ref kds, .ref ksp, .ref kkm, .ref kda]))]) (wr := []) hP hD hS hA [0] [] rfl rfl rfl (by decide) (va_runV (As := [.ref q26]) (rest := []) F (t_K_keep17 l g _ T  pl hO hU  q26 1 h0 kt ka kp kks kds ksp kkm kda 0 al pn k_kt k_ka k_kp k_kks k_kds k_ksp k_kkm k_kda kr30 (by omega) (by omega) (by omega)) (cwV 1 hts (wg_app (wg_c kw_760 (wg_c kw_762 (wg_c ks_19 (wg_c kw_1 wg_n)))) kw_763) rfl rfl rfl (by decide +kernel) ⟨by decide, by decide⟩) (pp_V (en_ok g) (q0 := 0) hK hP hD hS hA hE [0] rfl rfl rfl rfl) rfl rfl hl.1 rfl (lv_room (Nat.le_of_ble_eq_true rfl)) dK_load_107 ⟨Nat.le_of_ble_eq_true rfl, Nat.le_of_ble_eq_true rfl⟩) (fun r37 pl H locs hu35 hP hD hS => ?_)
            obtain ⟨hq35, hO⟩ := hu35
            have hP : va_P g.1 vcl ([(h0, .inr (0, [.ref kt, .int (nI 0), .ref ka, .int (nI al), .ref kp, .int (nI (pn + 1)), .ref kks, .ref kds, .ref ksp, .ref kkm, .ref kda]))] ++ pl) _ := hP
            have hD : va_D _ ([(h0, .inr (0, [.ref kt, .int (nI 0), .ref ka, .int (nI al), .ref kp, .int (nI (pn + 1)), .ref kks, .ref kds, .ref ksp, .ref kkm, .ref kda]))] ++ pl) := hD
            obtain rfl := hq35
            refine W.widen (k := 3) (n := 7491) (by omega) (by omega) ?_
            refine et_ret ?_
            exact mp_iret hx hb hr hlk hP hD hS ((T, 0, al, pn + 1), pl) ⟨⟨⟨(by show 0 ≤ 16384; omega), (by show al ≤ 8192; omega), (by show pn + 1 ≤ 8; omega), hXT, hU⟩, trivial⟩, hO⟩ [0] rfl rfl rfl (by omega) (by omega) dK_load_110
          · exact et_throw (own := "LatticeKeys") (cls := "java/lang/IllegalStateException") (text := "no room for more keys") (names := ["java/lang/RuntimeException", "java/lang/Exception"]) (ik := 69) (is := 105) (ic := 73) hx hb htr ctr_ISE_0 ctr_ISE_1 ctr_ISE_2 ctr_ISE_5 hown (by decide) (by decide) (hts _ (wg_t kw_420)) (hts _ (wg_t kw_17)) (hX.2.2.2.2.2.1 4 ("LatticeKeys", 105, "no room for more keys") rfl) (hat_ISE hts hX.2) hS.1 (hl.1.trans hml.symm) dK_load_57 dK_load_60 dK_load_61 dK_load_63 dK_load_66 htab (Nat.le_of_ble_eq_true rfl) (Nat.le_of_ble_eq_true rfl) (Nat.le_of_ble_eq_true rfl) (Nat.le_of_ble_eq_true rfl) hlk (Nat.le_of_ble_eq_true rfl) (Nat.le_of_ble_eq_true rfl) (List.mem_cons_of_mem _ (List.mem_cons_of_mem _ List.mem_cons_self)) hS.2.2 (thr_st hX.2) (fun t hz9 hk9 => ⟨⟨((T, tl, al, pn), pl), ⟨⟨⟨(by show tl ≤ 16384; omega), (by show al ≤ 8192; omega), (by show pn ≤ 8; omega), hXT, hU⟩, trivial⟩, hO⟩, lc_P hP hk9, hD⟩, (lc_S hS hz9 hk9).F rfl⟩)
        · exact et_throw (own := "LatticeKeys") (cls := "java/lang/UnsupportedOperationException") (text := "the check of the key fails") (names := ["java/lang/RuntimeException", "java/lang/Exception"]) (ik := 137) (is := 139) (ic := 141) hx hb htr ctr_UOE_0 ctr_UOE_1 ctr_UOE_2 ctr_UOE_5 hown (by decide) (by decide) (hts _ (wg_t kw_789)) (hts _ (wg_t kw_25)) (hX.2.2.2.2.2.1 6 ("LatticeKeys", 139, "the check of the key fails") rfl) (hat_UOE hts hX.2) hS.1 (hl.1.trans hml.symm) dK_load_38 dK_load_41 dK_load_42 dK_load_44 dK_load_47 htab (Nat.le_of_ble_eq_true rfl) (Nat.le_of_ble_eq_true rfl) (Nat.le_of_ble_eq_true rfl) (Nat.le_of_ble_eq_true rfl) hlk (Nat.le_of_ble_eq_true rfl) (Nat.le_of_ble_eq_true rfl) (List.mem_cons_of_mem _ List.mem_cons_self) hS.2.2 (thr_st hX.2) (fun t hz9 hk9 => ⟨⟨((T, tl, al, pn), pl), ⟨⟨⟨(by show tl ≤ 16384; omega), (by show al ≤ 8192; omega), (by show pn ≤ 8; omega), hXT, hU⟩, trivial⟩, hO⟩, lc_P hP hk9, hD⟩, (lc_S hS hz9 hk9).F rfl⟩)
    | 2, _, hq9 =>
      have hq21 := hq9
      rcases hq21 with hq21 | hq21
      · obtain ⟨rfl, h9⟩ := hq21
        have h9 : tl = 1568 := h9
        refine lv_if_ne (tgt := 19) hx hb dK_load_6 (by decide) (fun h40 => ?_) (fun h40 => absurd h40 (by decide))
        refine lv_iload_n hx hb dK_load_19 rfl (lv_at hl 1 rfl) ?_
        refine lv_iconst (v := nI 3) hx hb dK_load_20 (by decide) ?_
        refine mi_ge (tgt := 48) hx hb dK_load_21 (by decide) (by omega) (by omega) (fun h41 => absurd h41 (by omega)) (fun h41 => ?_)
        refine lv_aload_n hx hb dK_load_24 rfl (lv_at hl 0 rfl) ?_
        refine lv_aload_n hx hb dK_load_25 rfl (lv_at hl 0 rfl) ?_
        refine va_get (D := g.1) (ci := 0) (C := "LatticeKeys") (T := T_K) (N := 11) hx hb hts (wg_ft i_K) hown hK hP 0 rfl rfl 6 (by decide) (hts _ (wg_t kw_380)) (fun _ h9 => h9) rfl dK_load_26 ?_
        refine lv_iload_n hx hb dK_load_29 rfl (lv_at hl 1 rfl) ?_
        refine ty_aald50 hx hb hK hO k_kks (nxg clo_nil k_kks rfl) hP (by omega) dK_load_30 (fun r38 kr31 => ?_)
        refine lv_iload_n hx hb dK_load_31 rfl (lv_at hl 2 rfl) ?_
        refine mp_i (cx := [(h0, .inr (0, [.ref kt, .int (nI tl), .ref ka, .int (nI al), .ref kp, .int (nI pn), .ref kks, .ref kds, .ref ksp, .ref kkm, .ref kda]))]) (wr := []) hP hD hS hA [0] [] rfl rfl rfl (by decide) (va_runV (As := [.ref r38, .int (nI 0)]) (rest := []) F (t_K_isSound_2 l g _ T  pl hO hU  r38 (nI 0) h0 kt ka kp kks kds ksp kkm kda tl al pn k_kt k_ka k_kp k_kks k_kds k_ksp k_kkm k_kda kr31 (by omega)) (cwV 2 hts (wg_app (wg_c kw_777 (wg_c kw_779 (wg_c ks_21 (wg_c kw_1 wg_n)))) kw_780) rfl rfl rfl (by decide +kernel) ⟨by decide, by decide⟩) (pp_V (en_ok g) (q0 := 0) hK hP hD hS hA hE [0] rfl rfl rfl rfl) rfl rfl hl.1 rfl (lv_room (Nat.le_of_ble_eq_true rfl)) dK_load_32 ⟨Nat.le_of_ble_eq_true rfl, Nat.le_of_ble_eq_true rfl⟩) (fun r39 pl H locs hu36 hP hD hS => ?_)
        obtain ⟨hq36, hO⟩ := hu36
        have hP : va_P g.1 vcl ([(h0, .inr (0, [.ref kt, .int (nI tl), .ref ka, .int (nI al), .ref kp, .int (nI pn), .ref kks, .ref kds, .ref ksp, .ref kkm, .ref kda]))] ++ pl) _ := hP
        have hD : va_D _ ([(h0, .inr (0, [.ref kt, .int (nI tl), .ref ka, .int (nI al), .ref kp, .int (nI pn), .ref kks, .ref kds, .ref ksp, .ref kkm, .ref kda]))] ++ pl) := hD
        refine W.widen (k := 0) (n := 0) (by omega) (by omega) ?_
        refine lv_if_ne (tgt := 48) hx hb dK_load_35 (by decide) (fun h42 => ?_) (fun h42 => ?_)
        · refine lv_aload_n hx hb dK_load_48 rfl (lv_at hl 0 rfl) ?_
          refine va_get (D := g.1) (ci := 0) (C := "LatticeKeys") (T := T_K) (N := 11) hx hb hts (wg_ft i_K) hown hK hP 0 rfl rfl 5 (by decide) (hts _ (wg_t kw_379)) (fun _ h9 => h9) rfl dK_load_49 ?_
          refine lv_bipush (v := nI 8) hx hb dK_load_52 (by decide) ?_
          refine mi_lt (tgt := 67) hx hb dK_load_54 (by decide) (by omega) (by omega) (fun h43 => ?_) (fun h43 => ?_)
          · refine lv_iload_n hx hb dK_load_67 rfl (lv_at hl 2 rfl) ?_
            refine lv_if_eq (tgt := 79) hx hb dK_load_68 (by decide) (fun h44 => ?_) (fun h44 => absurd h44 (by decide))
            refine va_new (ws := [(h0, .inr (0, [.ref kt, .int (nI tl), .ref ka, .int (nI al), .ref kp, .int (nI pn), .ref kks, .ref kds, .ref ksp, .ref kkm, .ref kda]))] ++ pl) (ci := 13) (fs := [.int 0, .null, .null]) (C := "LatticeKeys$KeyPair") (T := T_KP) (N := 3) hx hb hts (wg_ft i_KP) ty_KP k_KP hown (hts _ (wg_t kw_43)) (hts _ (wg_t kw_740)) (hts _ (wg_t kw_24)) hK hP hD hS hA rfl z_KP (Nat.le_of_ble_eq_true rfl) (Nat.le_of_ble_eq_true rfl) dK_load_79 (fun q27 H hP hD hS => ?_)
            obtain ⟨hP, hD⟩ := mv_first hP hD
            have hP : va_P g.1 vcl ([(h0, .inr (0, [.ref kt, .int (nI tl), .ref ka, .int (nI al), .ref kp, .int (nI pn), .ref kks, .ref kds, .ref ksp, .ref kkm, .ref kda])), (q27, .inr (13, [.int 0, .null, .null]))] ++ pl) _ := hP
            have hD : va_D _ ([(h0, .inr (0, [.ref kt, .int (nI tl), .ref ka, .int (nI al), .ref kp, .int (nI pn), .ref kks, .ref kds, .ref ksp, .ref kkm, .ref kda])), (q27, .inr (13, [.int 0, .null, .null]))] ++ pl) := hD
            refine W.widen (k := 1) (n := 3) (by omega) (by omega) ?_
            refine lv_dup hx hb dK_load_82 rfl ?_
            refine lv_iload_n hx hb dK_load_83 rfl (lv_at hl 1 rfl) ?_
            refine lv_aload_n hx hb dK_load_84 rfl (lv_at hl 0 rfl) ?_
            refine va_get (D := g.1) (ci := 0) (C := "LatticeKeys") (T := T_K) (N := 11) hx hb hts (wg_ft i_K) hown hK hP 0 rfl rfl 0 (by decide) (hts _ (wg_t kw_374)) (fun _ h9 => h9) rfl dK_load_85 ?_
            refine lv_aload_n hx hb dK_load_88 rfl (lv_at hl 0 rfl) ?_
            refine va_get (D := g.1) (ci := 0) (C := "LatticeKeys") (T := T_K) (N := 11) hx hb hts (wg_ft i_K) hown hK hP 0 rfl rfl 1 (by decide) (hts _ (wg_t kw_375)) (fun _ h9 => h9) rfl dK_load_89 ?_
            refine mp_q (cx := []) (wr := [(h0, .inr (0, [.ref kt, .int (nI tl), .ref ka, .int (nI al), .ref kp, .int (nI pn), .ref kks, .ref kds, .ref ksp, .ref kkm, .ref kda])), (q27, .inr (13, [.int 0, .null, .null]))]) hP hD hS hA [] [0, 1] rfl rfl rfl (by decide) (va_runS (As := [.ref kt, .int (nI tl)]) (rest := [.int (nI 2), .ref q27, .ref q27]) F (t_AR_copyOf l g _ T  pl hO hU  kt 16384 tl k_kt (by omega) (by omega) (by omega)) (va_cwS 2 hts (wg_app (wg_c kw_1047 (wg_c kw_880 (wg_c kw_21 wg_n))) kw_881) rfl rfl rfl (by decide +kernel) ⟨by decide, by decide⟩) (pp_S (en_ok g) hP hD hS hA hE [] rfl rfl) rfl rfl hl.1 rfl (lv_room (Nat.le_of_ble_eq_true rfl)) dK_load_92 ⟨Nat.le_of_ble_eq_true rfl, Nat.le_of_ble_eq_true rfl⟩) (fun r40 u25 H locs hu37 hP hD hS => ?_)
            obtain ⟨T, pl⟩ := u25
            obtain ⟨hq37, hO⟩ := hu37
            have hP : va_P g.1 vcl ([(h0, .inr (0, [.ref kt, .int (nI tl), .ref ka, .int (nI al), .ref kp, .int (nI pn), .ref kks, .ref kds, .ref ksp, .ref kkm, .ref kda])), (q27, .inr (13, [.int 0, .null, .null]))] ++ pl) _ := hP
            have hD : va_D _ ([(h0, .inr (0, [.ref kt, .int (nI tl), .ref ka, .int (nI al), .ref kp, .int (nI pn), .ref kks, .ref kds, .ref ksp, .ref kkm, .ref kda])), (q27, .inr (13, [.int 0, .null, .null]))] ++ pl) := hD
            obtain ⟨hxt27, hU, q28, rfl, kr32⟩ := hq37
            have k_kt := hxt27 _ _ k_kt
            have k_ka := hxt27 _ _ k_ka
            have k_kp := hxt27 _ _ k_kp
            have k_kks := hxt27 _ _ k_kks
            have k_kds := hxt27 _ _ k_kds
            have k_ksp := hxt27 _ _ k_ksp
            have k_kkm := hxt27 _ _ k_kkm
            have k_kda := hxt27 _ _ k_kda
            have kr31 := hxt27 _ _ kr31
            have hXT := ext_tr hXT hxt27
            refine W.widen (k := 2) (n := 4899) (by omega) (by omega) ?_
            refine lv_null hx hb dK_load_95 ?_
            refine mp_v (cx := [(q27, .inr (13, [.int 0, .null, .null]))]) (wr := [(h0, .inr (0, [.ref kt, .int (nI tl), .ref ka, .int (nI al), .ref kp, .int (nI pn), .ref kks, .ref kds, .ref ksp, .ref kkm, .ref kda]))]) hP hD hS hA [1] [0] rfl rfl rfl (by decide) (va_runI (As := [.int (nI 2), .ref q28, .null]) (rest := [.ref q27]) F (t_KP_init16 l g _ T  pl hO hU  (nI 2) q27 q28) (cwI 3 hts (wg_in kw_743) rfl rfl rfl (hts _ (wg_t kw_24)) (hts _ (wg_t kw_741)) (hts _ (wg_t kw_742)) rfl (by decide +kernel) ⟨by decide, by decide⟩) (pp_S (en_ok g) hP hD hS hA hE [1] rfl rfl) rfl rfl hl.1 rfl (lv_room (Nat.le_of_ble_eq_true rfl)) dK_load_96 ⟨Nat.le_of_ble_eq_true rfl, Nat.le_of_ble_eq_true rfl⟩) (fun  pl H locs hu38 hP hD hS => ?_)
            obtain ⟨hq38, hO⟩ := hu38
            have hP : va_P g.1 vcl ([(h0, .inr (0, [.ref kt, .int (nI tl), .ref ka, .int (nI al), .ref kp, .int (nI pn), .ref kks, .ref kds, .ref ksp, .ref kkm, .ref kda])), (q27, .inr (13, [.int (nI 2), .ref q28, .null]))] ++ pl) _ := hP
            have hD : va_D _ ([(h0, .inr (0, [.ref kt, .int (nI tl), .ref ka, .int (nI al), .ref kp, .int (nI pn), .ref kks, .ref kds, .ref ksp, .ref kkm, .ref kda])), (q27, .inr (13, [.int (nI 2), .ref q28, .null]))] ++ pl) := hD
            refine W.widen (k := 2) (n := 4899) (by omega) (by omega) ?_
            obtain ⟨hP, hD⟩ := mv_last (X := [(h0, .inr (0, [.ref kt, .int (nI tl), .ref ka, .int (nI al), .ref kp, .int (nI pn), .ref kks, .ref kds, .ref ksp, .ref kkm, .ref kda]))]) (c := (q27, .inr (13, [.int (nI 2), .ref q28, .null]))) hP hD
            obtain ⟨T, pl, hxt28, hU, kr33, hO, hP, hD, hnk23⟩ := absorb (X := [(h0, .inr (0, [.ref kt, .int (nI tl), .ref ka, .int (nI al), .ref kp, .int (nI pn), .ref kks, .ref kds, .ref ksp, .ref kkm, .ref kda]))]) (16, 2) hP hD hO hU (Or.inl rfl) (fun T9 h9 _ => ⟨_, rfl, ⟨rfl, ⟨_, rfl, (by have h8 := h9 _ _ kr32; rw [show tl = 1568 by omega] at h8; exact h8)⟩, rfl, trivial⟩⟩)
            have k_kt := hxt28 _ _ k_kt
            have k_ka := hxt28 _ _ k_ka
            have k_kp := hxt28 _ _ k_kp
            have k_kks := hxt28 _ _ k_kks
            have k_kds := hxt28 _ _ k_kds
            have k_ksp := hxt28 _ _ k_ksp
            have k_kkm := hxt28 _ _ k_kkm
            have k_kda := hxt28 _ _ k_kda
            have kr31 := hxt28 _ _ kr31
            have kr32 := hxt28 _ _ kr32
            have hXT := ext_tr hXT hxt28
            have hP : va_P g.1 vcl ([(h0, .inr (0, [.ref kt, .int (nI tl), .ref ka, .int (nI al), .ref kp, .int (nI pn), .ref kks, .ref kds, .ref ksp, .ref kkm, .ref kda]))] ++ pl) _ := hP
            have hD : va_D _ ([(h0, .inr (0, [.ref kt, .int (nI tl), .ref ka, .int (nI al), .ref kp, .int (nI pn), .ref kks, .ref kds, .ref ksp, .ref kkm, .ref kda]))] ++ pl) := hD
            refine lv_astore_n (lv' := [(3, .ref q27), (0, .ref h0), (1, .int (nI 2)), (2, .int (nI 0))]) hx hb dK_load_99 rfl hl (by decide) rfl (fun ls hl => ?_)
            refine lv_aload_n hx hb dK_load_100 rfl (lv_at hl 1 rfl) ?_
            refine lv_iconst (v := nI 0) hx hb dK_load_101 (by decide) ?_
            refine va_put (D := g.1) (ci := 0) (v := .int (nI 0)) (ty := .int) (C := "LatticeKeys") (T := T_K) (N := 11) hx hb hts (wg_ft i_K) ty_K k_K n_K hown hK hP hD hS 0 rfl rfl 1 (by decide) (hts _ (wg_t kw_375)) (fun _ h9 => h9) rfl (by decide +kernel) rfl rfl (Nat.le_of_ble_eq_true rfl) dK_load_102 (fun H locs hP hD hS => ?_)
            have hP : va_P g.1 vcl ([(h0, .inr (0, [.ref kt, .int (nI 0), .ref ka, .int (nI al), .ref kp, .int (nI pn), .ref kks, .ref kds, .ref ksp, .ref kkm, .ref kda]))] ++ pl) _ := hP
            have hD : va_D _ ([(h0, .inr (0, [.ref kt, .int (nI 0), .ref ka, .int (nI al), .ref kp, .int (nI pn), .ref kks, .ref kds, .ref ksp, .ref kkm, .ref kda]))] ++ pl) := hD
            refine lv_aload_n hx hb dK_load_105 rfl (lv_at hl 1 rfl) ?_
            refine lv_aload_n hx hb dK_load_106 rfl (lv_at hl 0 rfl) ?_
            refine mp_i (cx := [(h0, .inr (0, [.ref kt, .int (nI 0), .ref ka, .int (nI al), .ref kp, .int (nI pn), .ref kks, .ref kds, .ref ksp, .ref kkm, .ref kda]))]) (wr := []) hP hD hS hA [0] [] rfl rfl rfl (by decide) (va_runV (As := [.ref q27]) (rest := []) F (t_K_keep16 l g _ T  pl hO hU  q27 2 h0 kt ka kp kks kds ksp kkm kda 0 al pn k_kt k_ka k_kp k_kks k_kds k_ksp k_kkm k_kda kr33 (by omega) (by omega) (by omega)) (cwV 1 hts (wg_app (wg_c kw_760 (wg_c kw_762 (wg_c ks_19 (wg_c kw_1 wg_n)))) kw_763) rfl rfl rfl (by decide +kernel) ⟨by decide, by decide⟩) (pp_V (en_ok g) (q0 := 0) hK hP hD hS hA hE [0] rfl rfl rfl rfl) rfl rfl hl.1 rfl (lv_room (Nat.le_of_ble_eq_true rfl)) dK_load_107 ⟨Nat.le_of_ble_eq_true rfl, Nat.le_of_ble_eq_true rfl⟩) (fun r41 pl H locs hu39 hP hD hS => ?_)
            obtain ⟨hq39, hO⟩ := hu39
            have hP : va_P g.1 vcl ([(h0, .inr (0, [.ref kt, .int (nI 0), .ref ka, .int (nI al), .ref kp, .int (nI (pn + 1)), .ref kks, .ref kds, .ref ksp, .ref kkm, .ref kda]))] ++ pl) _ := hP
            have hD : va_D _ ([(h0, .inr (0, [.ref kt, .int (nI 0), .ref ka, .int (nI al), .ref kp, .int (nI (pn + 1)), .ref kks, .ref kds, .ref ksp, .ref kkm, .ref kda]))] ++ pl) := hD
            obtain rfl := hq39
            refine W.widen (k := 2) (n := 4899) (by omega) (by omega) ?_
            refine et_ret ?_
            exact mp_iret hx hb hr hlk hP hD hS ((T, 0, al, pn + 1), pl) ⟨⟨⟨(by show 0 ≤ 16384; omega), (by show al ≤ 8192; omega), (by show pn + 1 ≤ 8; omega), hXT, hU⟩, trivial⟩, hO⟩ [0] rfl rfl rfl (by omega) (by omega) dK_load_110
          · exact et_throw (own := "LatticeKeys") (cls := "java/lang/IllegalStateException") (text := "no room for more keys") (names := ["java/lang/RuntimeException", "java/lang/Exception"]) (ik := 69) (is := 105) (ic := 73) hx hb htr ctr_ISE_0 ctr_ISE_1 ctr_ISE_2 ctr_ISE_5 hown (by decide) (by decide) (hts _ (wg_t kw_420)) (hts _ (wg_t kw_17)) (hX.2.2.2.2.2.1 4 ("LatticeKeys", 105, "no room for more keys") rfl) (hat_ISE hts hX.2) hS.1 (hl.1.trans hml.symm) dK_load_57 dK_load_60 dK_load_61 dK_load_63 dK_load_66 htab (Nat.le_of_ble_eq_true rfl) (Nat.le_of_ble_eq_true rfl) (Nat.le_of_ble_eq_true rfl) (Nat.le_of_ble_eq_true rfl) hlk (Nat.le_of_ble_eq_true rfl) (Nat.le_of_ble_eq_true rfl) (List.mem_cons_of_mem _ (List.mem_cons_of_mem _ List.mem_cons_self)) hS.2.2 (thr_st hX.2) (fun t hz9 hk9 => ⟨⟨((T, tl, al, pn), pl), ⟨⟨⟨(by show tl ≤ 16384; omega), (by show al ≤ 8192; omega), (by show pn ≤ 8; omega), hXT, hU⟩, trivial⟩, hO⟩, lc_P hP hk9, hD⟩, (lc_S hS hz9 hk9).F rfl⟩)
        · exact et_throw (own := "LatticeKeys") (cls := "java/lang/UnsupportedOperationException") (text := "the check of the key fails") (names := ["java/lang/RuntimeException", "java/lang/Exception"]) (ik := 137) (is := 139) (ic := 141) hx hb htr ctr_UOE_0 ctr_UOE_1 ctr_UOE_2 ctr_UOE_5 hown (by decide) (by decide) (hts _ (wg_t kw_789)) (hts _ (wg_t kw_25)) (hX.2.2.2.2.2.1 6 ("LatticeKeys", 139, "the check of the key fails") rfl) (hat_UOE hts hX.2) hS.1 (hl.1.trans hml.symm) dK_load_38 dK_load_41 dK_load_42 dK_load_44 dK_load_47 htab (Nat.le_of_ble_eq_true rfl) (Nat.le_of_ble_eq_true rfl) (Nat.le_of_ble_eq_true rfl) (Nat.le_of_ble_eq_true rfl) hlk (Nat.le_of_ble_eq_true rfl) (Nat.le_of_ble_eq_true rfl) (List.mem_cons_of_mem _ List.mem_cons_self) hS.2.2 (thr_st hX.2) (fun t hz9 hk9 => ⟨⟨((T, tl, al, pn), pl), ⟨⟨⟨(by show tl ≤ 16384; omega), (by show al ≤ 8192; omega), (by show pn ≤ 8; omega), hXT, hU⟩, trivial⟩, hO⟩, lc_P hP hk9, hD⟩, (lc_S hS hz9 hk9).F rfl⟩)
      · obtain ⟨hsc, h8, h9⟩ := hq21
        have h9 : tl = 3168 := h9
        refine lv_if_ne (tgt := 19) hx hb dK_load_6 (by decide) (fun h45 => ?_) (fun h45 => absurd h45 (by decide))
        refine lv_iload_n hx hb dK_load_19 rfl (lv_at hl 1 rfl) ?_
        refine lv_iconst (v := nI 3) hx hb dK_load_20 (by decide) ?_
        refine mi_ge (tgt := 48) hx hb dK_load_21 (by decide) (by omega) (by omega) (fun h46 => absurd h46 (by omega)) (fun h46 => ?_)
        refine lv_aload_n hx hb dK_load_24 rfl (lv_at hl 0 rfl) ?_
        refine lv_aload_n hx hb dK_load_25 rfl (lv_at hl 0 rfl) ?_
        refine va_get (D := g.1) (ci := 0) (C := "LatticeKeys") (T := T_K) (N := 11) hx hb hts (wg_ft i_K) hown hK hP 0 rfl rfl 6 (by decide) (hts _ (wg_t kw_380)) (fun _ h9 => h9) rfl dK_load_26 ?_
        refine lv_iload_n hx hb dK_load_29 rfl (lv_at hl 1 rfl) ?_
        refine ty_aald50 hx hb hK hO k_kks (nxg clo_nil k_kks rfl) hP (by omega) dK_load_30 (fun r42 kr34 => ?_)
        refine lv_iload_n hx hb dK_load_31 rfl (lv_at hl 2 rfl) ?_
        refine mp_i (cx := [(h0, .inr (0, [.ref kt, .int (nI tl), .ref ka, .int (nI al), .ref kp, .int (nI pn), .ref kks, .ref kds, .ref ksp, .ref kkm, .ref kda]))]) (wr := []) hP hD hS hA [0] [] rfl rfl rfl (by decide) (va_runV (As := [.ref r42, .int sc]) (rest := []) F (t_K_isSound_2 l g _ T  pl hO hU  r42 sc h0 kt ka kp kks kds ksp kkm kda tl al pn k_kt k_ka k_kp k_kks k_kds k_ksp k_kkm k_kda kr34 (by omega)) (cwV 2 hts (wg_app (wg_c kw_777 (wg_c kw_779 (wg_c ks_21 (wg_c kw_1 wg_n)))) kw_780) rfl rfl rfl (by decide +kernel) ⟨by decide, by decide⟩) (pp_V (en_ok g) (q0 := 0) hK hP hD hS hA hE [0] rfl rfl rfl rfl) rfl rfl hl.1 rfl (lv_room (Nat.le_of_ble_eq_true rfl)) dK_load_32 ⟨Nat.le_of_ble_eq_true rfl, Nat.le_of_ble_eq_true rfl⟩) (fun r43 pl H locs hu40 hP hD hS => ?_)
        obtain ⟨hq40, hO⟩ := hu40
        have hP : va_P g.1 vcl ([(h0, .inr (0, [.ref kt, .int (nI tl), .ref ka, .int (nI al), .ref kp, .int (nI pn), .ref kks, .ref kds, .ref ksp, .ref kkm, .ref kda]))] ++ pl) _ := hP
        have hD : va_D _ ([(h0, .inr (0, [.ref kt, .int (nI tl), .ref ka, .int (nI al), .ref kp, .int (nI pn), .ref kks, .ref kds, .ref ksp, .ref kkm, .ref kda]))] ++ pl) := hD
        refine W.widen (k := 0) (n := 0) (by omega) (by omega) ?_
        refine lv_if_ne (tgt := 48) hx hb dK_load_35 (by decide) (fun h47 => ?_) (fun h47 => ?_)
        · refine lv_aload_n hx hb dK_load_48 rfl (lv_at hl 0 rfl) ?_
          refine va_get (D := g.1) (ci := 0) (C := "LatticeKeys") (T := T_K) (N := 11) hx hb hts (wg_ft i_K) hown hK hP 0 rfl rfl 5 (by decide) (hts _ (wg_t kw_379)) (fun _ h9 => h9) rfl dK_load_49 ?_
          refine lv_bipush (v := nI 8) hx hb dK_load_52 (by decide) ?_
          refine mi_lt (tgt := 67) hx hb dK_load_54 (by decide) (by omega) (by omega) (fun h48 => ?_) (fun h48 => ?_)
          · refine lv_iload_n hx hb dK_load_67 rfl (lv_at hl 2 rfl) ?_
            refine lv_if_eq (tgt := 79) hx hb dK_load_68 (by decide) (fun h9 => absurd h9 hsc) (fun h9 => ?_)
            refine lv_aload_n hx hb dK_load_71 rfl (lv_at hl 0 rfl) ?_
            refine lv_iload_n hx hb dK_load_72 rfl (lv_at hl 1 rfl) ?_
            refine mp_q (cx := [(h0, .inr (0, [.ref kt, .int (nI tl), .ref ka, .int (nI al), .ref kp, .int (nI pn), .ref kks, .ref kds, .ref ksp, .ref kkm, .ref kda]))]) (wr := []) hP hD hS hA [0] [] rfl rfl rfl (by decide) (va_runV (As := [.int (nI 2)]) (rest := []) F (t_K_secretFromTape_2 l g _ T  pl hO hU  h0 kt ka kp kks kds ksp kkm kda tl al pn k_kt k_ka k_kp k_kks k_kds k_ksp k_kkm k_kda (by omega) (by omega)) (cwV 1 hts (wg_app (wg_c kw_805 (wg_c kw_807 (wg_c ks_22 (wg_c kw_1 wg_n)))) kw_808) rfl rfl rfl (by decide +kernel) ⟨by decide, by decide⟩) (pp_V (en_ok g) (q0 := 0) hK hP hD hS hA hE [0] rfl rfl rfl rfl) rfl rfl hl.1 rfl (lv_room (Nat.le_of_ble_eq_true rfl)) dK_load_73 ⟨Nat.le_of_ble_eq_true rfl, Nat.le_of_ble_eq_true rfl⟩) (fun r44 u26 H locs hu41 hP hD hS => ?_)
            obtain ⟨T, pl⟩ := u26
            obtain ⟨hq41, hO⟩ := hu41
            have hP : va_P g.1 vcl ([(h0, .inr (0, [.ref kt, .int (nI tl), .ref ka, .int (nI al), .ref kp, .int (nI pn), .ref kks, .ref kds, .ref ksp, .ref kkm, .ref kda]))] ++ pl) _ := hP
            have hD : va_D _ ([(h0, .inr (0, [.ref kt, .int (nI tl), .ref ka, .int (nI al), .ref kp, .int (nI pn), .ref kks, .ref kds, .ref ksp, .ref kkm, .ref kda]))] ++ pl) := hD
            obtain ⟨hxt29, hU, q29, rfl, kr35⟩ := hq41
            have k_kt := hxt29 _ _ k_kt
            have k_ka := hxt29 _ _ k_ka
            have k_kp := hxt29 _ _ k_kp
            have k_kks := hxt29 _ _ k_kks
            have k_kds := hxt29 _ _ k_kds
            have k_ksp := hxt29 _ _ k_ksp
            have k_kkm := hxt29 _ _ k_kkm
            have k_kda := hxt29 _ _ k_kda
            have kr34 := hxt29 _ _ kr34
            have hXT := ext_tr hXT hxt29
            refine W.widen (k := 3) (n := 7491) (by omega) (by omega) ?_
            refine lv_goto (tgt := 99) hx hb dK_load_76 (by decide) ?_
            refine lv_astore_n (lv' := [(3, .ref q29), (0, .ref h0), (1, .int (nI 2)), (2, .int sc)]) hx hb dK_load_99 rfl hl (by decide) rfl (fun ls hl => ?_)
            refine lv_aload_n hx hb dK_load_100 rfl (lv_at hl 1 rfl) ?_
            refine lv_iconst (v := nI 0) hx hb dK_load_101 (by decide) ?_
            refine va_put (D := g.1) (ci := 0) (v := .int (nI 0)) (ty := .int) (C := "LatticeKeys") (T := T_K) (N := 11) hx hb hts (wg_ft i_K) ty_K k_K n_K hown hK hP hD hS 0 rfl rfl 1 (by decide) (hts _ (wg_t kw_375)) (fun _ h9 => h9) rfl (by decide +kernel) rfl rfl (Nat.le_of_ble_eq_true rfl) dK_load_102 (fun H locs hP hD hS => ?_)
            have hP : va_P g.1 vcl ([(h0, .inr (0, [.ref kt, .int (nI 0), .ref ka, .int (nI al), .ref kp, .int (nI pn), .ref kks, .ref kds, .ref ksp, .ref kkm, .ref kda]))] ++ pl) _ := hP
            have hD : va_D _ ([(h0, .inr (0, [.ref kt, .int (nI 0), .ref ka, .int (nI al), .ref kp, .int (nI pn), .ref kks, .ref kds, .ref ksp, .ref kkm, .ref kda]))] ++ pl) := hD
            refine lv_aload_n hx hb dK_load_105 rfl (lv_at hl 1 rfl) ?_
            refine lv_aload_n hx hb dK_load_106 rfl (lv_at hl 0 rfl) ?_
            refine mp_i (cx := [(h0, .inr (0, [.ref kt, .int (nI 0), .ref ka, .int (nI al), .ref kp, .int (nI pn), .ref kks, .ref kds, .ref ksp, .ref kkm, .ref kda]))]) (wr := []) hP hD hS hA [0] [] rfl rfl rfl (by decide) (va_runV (As := [.ref q29]) (rest := []) F (t_K_keep17 l g _ T  pl hO hU  q29 2 h0 kt ka kp kks kds ksp kkm kda 0 al pn k_kt k_ka k_kp k_kks k_kds k_ksp k_kkm k_kda kr35 (by omega) (by omega) (by omega)) (cwV 1 hts (wg_app (wg_c kw_760 (wg_c kw_762 (wg_c ks_19 (wg_c kw_1 wg_n)))) kw_763) rfl rfl rfl (by decide +kernel) ⟨by decide, by decide⟩) (pp_V (en_ok g) (q0 := 0) hK hP hD hS hA hE [0] rfl rfl rfl rfl) rfl rfl hl.1 rfl (lv_room (Nat.le_of_ble_eq_true rfl)) dK_load_107 ⟨Nat.le_of_ble_eq_true rfl, Nat.le_of_ble_eq_true rfl⟩) (fun r45 pl H locs hu42 hP hD hS => ?_)
            obtain ⟨hq42, hO⟩ := hu42
            have hP : va_P g.1 vcl ([(h0, .inr (0, [.ref kt, .int (nI 0), .ref ka, .int (nI al), .ref kp, .int (nI (pn + 1)), .ref kks, .ref kds, .ref ksp, .ref kkm, .ref kda]))] ++ pl) _ := hP
            have hD : va_D _ ([(h0, .inr (0, [.ref kt, .int (nI 0), .ref ka, .int (nI al), .ref kp, .int (nI (pn + 1)), .ref kks, .ref kds, .ref ksp, .ref kkm, .ref kda]))] ++ pl) := hD
            obtain rfl := hq42
            refine W.widen (k := 3) (n := 7491) (by omega) (by omega) ?_
            refine et_ret ?_
            exact mp_iret hx hb hr hlk hP hD hS ((T, 0, al, pn + 1), pl) ⟨⟨⟨(by show 0 ≤ 16384; omega), (by show al ≤ 8192; omega), (by show pn + 1 ≤ 8; omega), hXT, hU⟩, trivial⟩, hO⟩ [0] rfl rfl rfl (by omega) (by omega) dK_load_110
          · exact et_throw (own := "LatticeKeys") (cls := "java/lang/IllegalStateException") (text := "no room for more keys") (names := ["java/lang/RuntimeException", "java/lang/Exception"]) (ik := 69) (is := 105) (ic := 73) hx hb htr ctr_ISE_0 ctr_ISE_1 ctr_ISE_2 ctr_ISE_5 hown (by decide) (by decide) (hts _ (wg_t kw_420)) (hts _ (wg_t kw_17)) (hX.2.2.2.2.2.1 4 ("LatticeKeys", 105, "no room for more keys") rfl) (hat_ISE hts hX.2) hS.1 (hl.1.trans hml.symm) dK_load_57 dK_load_60 dK_load_61 dK_load_63 dK_load_66 htab (Nat.le_of_ble_eq_true rfl) (Nat.le_of_ble_eq_true rfl) (Nat.le_of_ble_eq_true rfl) (Nat.le_of_ble_eq_true rfl) hlk (Nat.le_of_ble_eq_true rfl) (Nat.le_of_ble_eq_true rfl) (List.mem_cons_of_mem _ (List.mem_cons_of_mem _ List.mem_cons_self)) hS.2.2 (thr_st hX.2) (fun t hz9 hk9 => ⟨⟨((T, tl, al, pn), pl), ⟨⟨⟨(by show tl ≤ 16384; omega), (by show al ≤ 8192; omega), (by show pn ≤ 8; omega), hXT, hU⟩, trivial⟩, hO⟩, lc_P hP hk9, hD⟩, (lc_S hS hz9 hk9).F rfl⟩)
        · exact et_throw (own := "LatticeKeys") (cls := "java/lang/UnsupportedOperationException") (text := "the check of the key fails") (names := ["java/lang/RuntimeException", "java/lang/Exception"]) (ik := 137) (is := 139) (ic := 141) hx hb htr ctr_UOE_0 ctr_UOE_1 ctr_UOE_2 ctr_UOE_5 hown (by decide) (by decide) (hts _ (wg_t kw_789)) (hts _ (wg_t kw_25)) (hX.2.2.2.2.2.1 6 ("LatticeKeys", 139, "the check of the key fails") rfl) (hat_UOE hts hX.2) hS.1 (hl.1.trans hml.symm) dK_load_38 dK_load_41 dK_load_42 dK_load_44 dK_load_47 htab (Nat.le_of_ble_eq_true rfl) (Nat.le_of_ble_eq_true rfl) (Nat.le_of_ble_eq_true rfl) (Nat.le_of_ble_eq_true rfl) hlk (Nat.le_of_ble_eq_true rfl) (Nat.le_of_ble_eq_true rfl) (List.mem_cons_of_mem _ List.mem_cons_self) hS.2.2 (thr_st hX.2) (fun t hz9 hk9 => ⟨⟨((T, tl, al, pn), pl), ⟨⟨⟨(by show tl ≤ 16384; omega), (by show al ≤ 8192; omega), (by show pn ≤ 8; omega), hXT, hU⟩, trivial⟩, hO⟩, lc_P hP hk9, hD⟩, (lc_S hS hz9 hk9).F rfl⟩)
    | 3, _, hq9 =>
      have hq21 := hq9
      rcases hq21 with hq21 | hq21
      · obtain ⟨rfl, h9⟩ := hq21
        have h9 : tl = 1312 := h9
        refine lv_if_ne (tgt := 19) hx hb dK_load_6 (by decide) (fun h49 => ?_) (fun h49 => absurd h49 (by decide))
        refine lv_iload_n hx hb dK_load_19 rfl (lv_at hl 1 rfl) ?_
        refine lv_iconst (v := nI 3) hx hb dK_load_20 (by decide) ?_
        refine mi_ge (tgt := 48) hx hb dK_load_21 (by decide) (by omega) (by omega) (fun h50 => ?_) (fun h50 => absurd h50 (by omega))
        refine lv_aload_n hx hb dK_load_48 rfl (lv_at hl 0 rfl) ?_
        refine va_get (D := g.1) (ci := 0) (C := "LatticeKeys") (T := T_K) (N := 11) hx hb hts (wg_ft i_K) hown hK hP 0 rfl rfl 5 (by decide) (hts _ (wg_t kw_379)) (fun _ h9 => h9) rfl dK_load_49 ?_
        refine lv_bipush (v := nI 8) hx hb dK_load_52 (by decide) ?_
        refine mi_lt (tgt := 67) hx hb dK_load_54 (by decide) (by omega) (by omega) (fun h51 => ?_) (fun h51 => ?_)
        · refine lv_iload_n hx hb dK_load_67 rfl (lv_at hl 2 rfl) ?_
          refine lv_if_eq (tgt := 79) hx hb dK_load_68 (by decide) (fun h52 => ?_) (fun h52 => absurd h52 (by decide))
          refine va_new (ws := [(h0, .inr (0, [.ref kt, .int (nI tl), .ref ka, .int (nI al), .ref kp, .int (nI pn), .ref kks, .ref kds, .ref ksp, .ref kkm, .ref kda]))] ++ pl) (ci := 13) (fs := [.int 0, .null, .null]) (C := "LatticeKeys$KeyPair") (T := T_KP) (N := 3) hx hb hts (wg_ft i_KP) ty_KP k_KP hown (hts _ (wg_t kw_43)) (hts _ (wg_t kw_740)) (hts _ (wg_t kw_24)) hK hP hD hS hA rfl z_KP (Nat.le_of_ble_eq_true rfl) (Nat.le_of_ble_eq_true rfl) dK_load_79 (fun q30 H hP hD hS => ?_)
          obtain ⟨hP, hD⟩ := mv_first hP hD
          have hP : va_P g.1 vcl ([(h0, .inr (0, [.ref kt, .int (nI tl), .ref ka, .int (nI al), .ref kp, .int (nI pn), .ref kks, .ref kds, .ref ksp, .ref kkm, .ref kda])), (q30, .inr (13, [.int 0, .null, .null]))] ++ pl) _ := hP
          have hD : va_D _ ([(h0, .inr (0, [.ref kt, .int (nI tl), .ref ka, .int (nI al), .ref kp, .int (nI pn), .ref kks, .ref kds, .ref ksp, .ref kkm, .ref kda])), (q30, .inr (13, [.int 0, .null, .null]))] ++ pl) := hD
          refine W.widen (k := 1) (n := 3) (by omega) (by omega) ?_
          refine lv_dup hx hb dK_load_82 rfl ?_
          refine lv_iload_n hx hb dK_load_83 rfl (lv_at hl 1 rfl) ?_
          refine lv_aload_n hx hb dK_load_84 rfl (lv_at hl 0 rfl) ?_
          refine va_get (D := g.1) (ci := 0) (C := "LatticeKeys") (T := T_K) (N := 11) hx hb hts (wg_ft i_K) hown hK hP 0 rfl rfl 0 (by decide) (hts _ (wg_t kw_374)) (fun _ h9 => h9) rfl dK_load_85 ?_
          refine lv_aload_n hx hb dK_load_88 rfl (lv_at hl 0 rfl) ?_
          refine va_get (D := g.1) (ci := 0) (C := "LatticeKeys") (T := T_K) (N := 11) hx hb hts (wg_ft i_K) hown hK hP 0 rfl rfl 1 (by decide) (hts _ (wg_t kw_375)) (fun _ h9 => h9) rfl dK_load_89 ?_
          refine mp_q (cx := []) (wr := [(h0, .inr (0, [.ref kt, .int (nI tl), .ref ka, .int (nI al), .ref kp, .int (nI pn), .ref kks, .ref kds, .ref ksp, .ref kkm, .ref kda])), (q30, .inr (13, [.int 0, .null, .null]))]) hP hD hS hA [] [0, 1] rfl rfl rfl (by decide) (va_runS (As := [.ref kt, .int (nI tl)]) (rest := [.int (nI 3), .ref q30, .ref q30]) F (t_AR_copyOf l g _ T  pl hO hU  kt 16384 tl k_kt (by omega) (by omega) (by omega)) (va_cwS 2 hts (wg_app (wg_c kw_1047 (wg_c kw_880 (wg_c kw_21 wg_n))) kw_881) rfl rfl rfl (by decide +kernel) ⟨by decide, by decide⟩) (pp_S (en_ok g) hP hD hS hA hE [] rfl rfl) rfl rfl hl.1 rfl (lv_room (Nat.le_of_ble_eq_true rfl)) dK_load_92 ⟨Nat.le_of_ble_eq_true rfl, Nat.le_of_ble_eq_true rfl⟩) (fun r46 u27 H locs hu43 hP hD hS => ?_)
          obtain ⟨T, pl⟩ := u27
          obtain ⟨hq43, hO⟩ := hu43
          have hP : va_P g.1 vcl ([(h0, .inr (0, [.ref kt, .int (nI tl), .ref ka, .int (nI al), .ref kp, .int (nI pn), .ref kks, .ref kds, .ref ksp, .ref kkm, .ref kda])), (q30, .inr (13, [.int 0, .null, .null]))] ++ pl) _ := hP
          have hD : va_D _ ([(h0, .inr (0, [.ref kt, .int (nI tl), .ref ka, .int (nI al), .ref kp, .int (nI pn), .ref kks, .ref kds, .ref ksp, .ref kkm, .ref kda])), (q30, .inr (13, [.int 0, .null, .null]))] ++ pl) := hD
          obtain ⟨hxt30, hU, q31, rfl, kr36⟩ := hq43
          have k_kt := hxt30 _ _ k_kt
          have k_ka := hxt30 _ _ k_ka
          have k_kp := hxt30 _ _ k_kp
          have k_kks := hxt30 _ _ k_kks
          have k_kds := hxt30 _ _ k_kds
          have k_ksp := hxt30 _ _ k_ksp
          have k_kkm := hxt30 _ _ k_kkm
          have k_kda := hxt30 _ _ k_kda
          have hXT := ext_tr hXT hxt30
          refine W.widen (k := 2) (n := 4899) (by omega) (by omega) ?_
          refine lv_null hx hb dK_load_95 ?_
          refine mp_v (cx := [(q30, .inr (13, [.int 0, .null, .null]))]) (wr := [(h0, .inr (0, [.ref kt, .int (nI tl), .ref ka, .int (nI al), .ref kp, .int (nI pn), .ref kks, .ref kds, .ref ksp, .ref kkm, .ref kda]))]) hP hD hS hA [1] [0] rfl rfl rfl (by decide) (va_runI (As := [.int (nI 3), .ref q31, .null]) (rest := [.ref q30]) F (t_KP_init16 l g _ T  pl hO hU  (nI 3) q30 q31) (cwI 3 hts (wg_in kw_743) rfl rfl rfl (hts _ (wg_t kw_24)) (hts _ (wg_t kw_741)) (hts _ (wg_t kw_742)) rfl (by decide +kernel) ⟨by decide, by decide⟩) (pp_S (en_ok g) hP hD hS hA hE [1] rfl rfl) rfl rfl hl.1 rfl (lv_room (Nat.le_of_ble_eq_true rfl)) dK_load_96 ⟨Nat.le_of_ble_eq_true rfl, Nat.le_of_ble_eq_true rfl⟩) (fun  pl H locs hu44 hP hD hS => ?_)
          obtain ⟨hq44, hO⟩ := hu44
          have hP : va_P g.1 vcl ([(h0, .inr (0, [.ref kt, .int (nI tl), .ref ka, .int (nI al), .ref kp, .int (nI pn), .ref kks, .ref kds, .ref ksp, .ref kkm, .ref kda])), (q30, .inr (13, [.int (nI 3), .ref q31, .null]))] ++ pl) _ := hP
          have hD : va_D _ ([(h0, .inr (0, [.ref kt, .int (nI tl), .ref ka, .int (nI al), .ref kp, .int (nI pn), .ref kks, .ref kds, .ref ksp, .ref kkm, .ref kda])), (q30, .inr (13, [.int (nI 3), .ref q31, .null]))] ++ pl) := hD
          refine W.widen (k := 2) (n := 4899) (by omega) (by omega) ?_
          obtain ⟨hP, hD⟩ := mv_last (X := [(h0, .inr (0, [.ref kt, .int (nI tl), .ref ka, .int (nI al), .ref kp, .int (nI pn), .ref kks, .ref kds, .ref ksp, .ref kkm, .ref kda]))]) (c := (q30, .inr (13, [.int (nI 3), .ref q31, .null]))) hP hD
          obtain ⟨T, pl, hxt31, hU, kr37, hO, hP, hD, hnk24⟩ := absorb (X := [(h0, .inr (0, [.ref kt, .int (nI tl), .ref ka, .int (nI al), .ref kp, .int (nI pn), .ref kks, .ref kds, .ref ksp, .ref kkm, .ref kda]))]) (16, 3) hP hD hO hU (Or.inl rfl) (fun T9 h9 _ => ⟨_, rfl, ⟨rfl, ⟨_, rfl, (by have h8 := h9 _ _ kr36; rw [show tl = 1312 by omega] at h8; exact h8)⟩, rfl, trivial⟩⟩)
          have k_kt := hxt31 _ _ k_kt
          have k_ka := hxt31 _ _ k_ka
          have k_kp := hxt31 _ _ k_kp
          have k_kks := hxt31 _ _ k_kks
          have k_kds := hxt31 _ _ k_kds
          have k_ksp := hxt31 _ _ k_ksp
          have k_kkm := hxt31 _ _ k_kkm
          have k_kda := hxt31 _ _ k_kda
          have kr36 := hxt31 _ _ kr36
          have hXT := ext_tr hXT hxt31
          have hP : va_P g.1 vcl ([(h0, .inr (0, [.ref kt, .int (nI tl), .ref ka, .int (nI al), .ref kp, .int (nI pn), .ref kks, .ref kds, .ref ksp, .ref kkm, .ref kda]))] ++ pl) _ := hP
          have hD : va_D _ ([(h0, .inr (0, [.ref kt, .int (nI tl), .ref ka, .int (nI al), .ref kp, .int (nI pn), .ref kks, .ref kds, .ref ksp, .ref kkm, .ref kda]))] ++ pl) := hD
          refine lv_astore_n (lv' := [(3, .ref q30), (0, .ref h0), (1, .int (nI 3)), (2, .int (nI 0))]) hx hb dK_load_99 rfl hl (by decide) rfl (fun ls hl => ?_)
          refine lv_aload_n hx hb dK_load_100 rfl (lv_at hl 1 rfl) ?_
          refine lv_iconst (v := nI 0) hx hb dK_load_101 (by decide) ?_
          refine va_put (D := g.1) (ci := 0) (v := .int (nI 0)) (ty := .int) (C := "LatticeKeys") (T := T_K) (N := 11) hx hb hts (wg_ft i_K) ty_K k_K n_K hown hK hP hD hS 0 rfl rfl 1 (by decide) (hts _ (wg_t kw_375)) (fun _ h9 => h9) rfl (by decide +kernel) rfl rfl (Nat.le_of_ble_eq_true rfl) dK_load_102 (fun H locs hP hD hS => ?_)
          have hP : va_P g.1 vcl ([(h0, .inr (0, [.ref kt, .int (nI 0), .ref ka, .int (nI al), .ref kp, .int (nI pn), .ref kks, .ref kds, .ref ksp, .ref kkm, .ref kda]))] ++ pl) _ := hP
          have hD : va_D _ ([(h0, .inr (0, [.ref kt, .int (nI 0), .ref ka, .int (nI al), .ref kp, .int (nI pn), .ref kks, .ref kds, .ref ksp, .ref kkm, .ref kda]))] ++ pl) := hD
          refine lv_aload_n hx hb dK_load_105 rfl (lv_at hl 1 rfl) ?_
          refine lv_aload_n hx hb dK_load_106 rfl (lv_at hl 0 rfl) ?_
          refine mp_i (cx := [(h0, .inr (0, [.ref kt, .int (nI 0), .ref ka, .int (nI al), .ref kp, .int (nI pn), .ref kks, .ref kds, .ref ksp, .ref kkm, .ref kda]))]) (wr := []) hP hD hS hA [0] [] rfl rfl rfl (by decide) (va_runV (As := [.ref q30]) (rest := []) F (t_K_keep16 l g _ T  pl hO hU  q30 3 h0 kt ka kp kks kds ksp kkm kda 0 al pn k_kt k_ka k_kp k_kks k_kds k_ksp k_kkm k_kda kr37 (by omega) (by omega) (by omega)) (cwV 1 hts (wg_app (wg_c kw_760 (wg_c kw_762 (wg_c ks_19 (wg_c kw_1 wg_n)))) kw_763) rfl rfl rfl (by decide +kernel) ⟨by decide, by decide⟩) (pp_V (en_ok g) (q0 := 0) hK hP hD hS hA hE [0] rfl rfl rfl rfl) rfl rfl hl.1 rfl (lv_room (Nat.le_of_ble_eq_true rfl)) dK_load_107 ⟨Nat.le_of_ble_eq_true rfl, Nat.le_of_ble_eq_true rfl⟩) (fun r47 pl H locs hu45 hP hD hS => ?_)
          obtain ⟨hq45, hO⟩ := hu45
          have hP : va_P g.1 vcl ([(h0, .inr (0, [.ref kt, .int (nI 0), .ref ka, .int (nI al), .ref kp, .int (nI (pn + 1)), .ref kks, .ref kds, .ref ksp, .ref kkm, .ref kda]))] ++ pl) _ := hP
          have hD : va_D _ ([(h0, .inr (0, [.ref kt, .int (nI 0), .ref ka, .int (nI al), .ref kp, .int (nI (pn + 1)), .ref kks, .ref kds, .ref ksp, .ref kkm, .ref kda]))] ++ pl) := hD
          obtain rfl := hq45
          refine W.widen (k := 2) (n := 4899) (by omega) (by omega) ?_
          refine et_ret ?_
          exact mp_iret hx hb hr hlk hP hD hS ((T, 0, al, pn + 1), pl) ⟨⟨⟨(by show 0 ≤ 16384; omega), (by show al ≤ 8192; omega), (by show pn + 1 ≤ 8; omega), hXT, hU⟩, trivial⟩, hO⟩ [0] rfl rfl rfl (by omega) (by omega) dK_load_110
        · exact et_throw (own := "LatticeKeys") (cls := "java/lang/IllegalStateException") (text := "no room for more keys") (names := ["java/lang/RuntimeException", "java/lang/Exception"]) (ik := 69) (is := 105) (ic := 73) hx hb htr ctr_ISE_0 ctr_ISE_1 ctr_ISE_2 ctr_ISE_5 hown (by decide) (by decide) (hts _ (wg_t kw_420)) (hts _ (wg_t kw_17)) (hX.2.2.2.2.2.1 4 ("LatticeKeys", 105, "no room for more keys") rfl) (hat_ISE hts hX.2) hS.1 (hl.1.trans hml.symm) dK_load_57 dK_load_60 dK_load_61 dK_load_63 dK_load_66 htab (Nat.le_of_ble_eq_true rfl) (Nat.le_of_ble_eq_true rfl) (Nat.le_of_ble_eq_true rfl) (Nat.le_of_ble_eq_true rfl) hlk (Nat.le_of_ble_eq_true rfl) (Nat.le_of_ble_eq_true rfl) (List.mem_cons_of_mem _ (List.mem_cons_of_mem _ List.mem_cons_self)) hS.2.2 (thr_st hX.2) (fun t hz9 hk9 => ⟨⟨((T, tl, al, pn), pl), ⟨⟨⟨(by show tl ≤ 16384; omega), (by show al ≤ 8192; omega), (by show pn ≤ 8; omega), hXT, hU⟩, trivial⟩, hO⟩, lc_P hP hk9, hD⟩, (lc_S hS hz9 hk9).F rfl⟩)
      · exact absurd hq21.2.1 (by omega)
    | 4, _, hq9 =>
      have hq21 := hq9
      rcases hq21 with hq21 | hq21
      · obtain ⟨rfl, h9⟩ := hq21
        have h9 : tl = 1952 := h9
        refine lv_if_ne (tgt := 19) hx hb dK_load_6 (by decide) (fun h53 => ?_) (fun h53 => absurd h53 (by decide))
        refine lv_iload_n hx hb dK_load_19 rfl (lv_at hl 1 rfl) ?_
        refine lv_iconst (v := nI 3) hx hb dK_load_20 (by decide) ?_
        refine mi_ge (tgt := 48) hx hb dK_load_21 (by decide) (by omega) (by omega) (fun h54 => ?_) (fun h54 => absurd h54 (by omega))
        refine lv_aload_n hx hb dK_load_48 rfl (lv_at hl 0 rfl) ?_
        refine va_get (D := g.1) (ci := 0) (C := "LatticeKeys") (T := T_K) (N := 11) hx hb hts (wg_ft i_K) hown hK hP 0 rfl rfl 5 (by decide) (hts _ (wg_t kw_379)) (fun _ h9 => h9) rfl dK_load_49 ?_
        refine lv_bipush (v := nI 8) hx hb dK_load_52 (by decide) ?_
        refine mi_lt (tgt := 67) hx hb dK_load_54 (by decide) (by omega) (by omega) (fun h55 => ?_) (fun h55 => ?_)
        · refine lv_iload_n hx hb dK_load_67 rfl (lv_at hl 2 rfl) ?_
          refine lv_if_eq (tgt := 79) hx hb dK_load_68 (by decide) (fun h56 => ?_) (fun h56 => absurd h56 (by decide))
          refine va_new (ws := [(h0, .inr (0, [.ref kt, .int (nI tl), .ref ka, .int (nI al), .ref kp, .int (nI pn), .ref kks, .ref kds, .ref ksp, .ref kkm, .ref kda]))] ++ pl) (ci := 13) (fs := [.int 0, .null, .null]) (C := "LatticeKeys$KeyPair") (T := T_KP) (N := 3) hx hb hts (wg_ft i_KP) ty_KP k_KP hown (hts _ (wg_t kw_43)) (hts _ (wg_t kw_740)) (hts _ (wg_t kw_24)) hK hP hD hS hA rfl z_KP (Nat.le_of_ble_eq_true rfl) (Nat.le_of_ble_eq_true rfl) dK_load_79 (fun q32 H hP hD hS => ?_)
          obtain ⟨hP, hD⟩ := mv_first hP hD
          have hP : va_P g.1 vcl ([(h0, .inr (0, [.ref kt, .int (nI tl), .ref ka, .int (nI al), .ref kp, .int (nI pn), .ref kks, .ref kds, .ref ksp, .ref kkm, .ref kda])), (q32, .inr (13, [.int 0, .null, .null]))] ++ pl) _ := hP
          have hD : va_D _ ([(h0, .inr (0, [.ref kt, .int (nI tl), .ref ka, .int (nI al), .ref kp, .int (nI pn), .ref kks, .ref kds, .ref ksp, .ref kkm, .ref kda])), (q32, .inr (13, [.int 0, .null, .null]))] ++ pl) := hD
          refine W.widen (k := 1) (n := 3) (by omega) (by omega) ?_
          refine lv_dup hx hb dK_load_82 rfl ?_
          refine lv_iload_n hx hb dK_load_83 rfl (lv_at hl 1 rfl) ?_
          refine lv_aload_n hx hb dK_load_84 rfl (lv_at hl 0 rfl) ?_
          refine va_get (D := g.1) (ci := 0) (C := "LatticeKeys") (T := T_K) (N := 11) hx hb hts (wg_ft i_K) hown hK hP 0 rfl rfl 0 (by decide) (hts _ (wg_t kw_374)) (fun _ h9 => h9) rfl dK_load_85 ?_
          refine lv_aload_n hx hb dK_load_88 rfl (lv_at hl 0 rfl) ?_
          refine va_get (D := g.1) (ci := 0) (C := "LatticeKeys") (T := T_K) (N := 11) hx hb hts (wg_ft i_K) hown hK hP 0 rfl rfl 1 (by decide) (hts _ (wg_t kw_375)) (fun _ h9 => h9) rfl dK_load_89 ?_
          refine mp_q (cx := []) (wr := [(h0, .inr (0, [.ref kt, .int (nI tl), .ref ka, .int (nI al), .ref kp, .int (nI pn), .ref kks, .ref kds, .ref ksp, .ref kkm, .ref kda])), (q32, .inr (13, [.int 0, .null, .null]))]) hP hD hS hA [] [0, 1] rfl rfl rfl (by decide) (va_runS (As := [.ref kt, .int (nI tl)]) (rest := [.int (nI 4), .ref q32, .ref q32]) F (t_AR_copyOf l g _ T  pl hO hU  kt 16384 tl k_kt (by omega) (by omega) (by omega)) (va_cwS 2 hts (wg_app (wg_c kw_1047 (wg_c kw_880 (wg_c kw_21 wg_n))) kw_881) rfl rfl rfl (by decide +kernel) ⟨by decide, by decide⟩) (pp_S (en_ok g) hP hD hS hA hE [] rfl rfl) rfl rfl hl.1 rfl (lv_room (Nat.le_of_ble_eq_true rfl)) dK_load_92 ⟨Nat.le_of_ble_eq_true rfl, Nat.le_of_ble_eq_true rfl⟩) (fun r48 u28 H locs hu46 hP hD hS => ?_)
          obtain ⟨T, pl⟩ := u28
          obtain ⟨hq46, hO⟩ := hu46
          have hP : va_P g.1 vcl ([(h0, .inr (0, [.ref kt, .int (nI tl), .ref ka, .int (nI al), .ref kp, .int (nI pn), .ref kks, .ref kds, .ref ksp, .ref kkm, .ref kda])), (q32, .inr (13, [.int 0, .null, .null]))] ++ pl) _ := hP
          have hD : va_D _ ([(h0, .inr (0, [.ref kt, .int (nI tl), .ref ka, .int (nI al), .ref kp, .int (nI pn), .ref kks, .ref kds, .ref ksp, .ref kkm, .ref kda])), (q32, .inr (13, [.int 0, .null, .null]))] ++ pl) := hD
          obtain ⟨hxt32, hU, q33, rfl, kr38⟩ := hq46
          have k_kt := hxt32 _ _ k_kt
          have k_ka := hxt32 _ _ k_ka
          have k_kp := hxt32 _ _ k_kp
          have k_kks := hxt32 _ _ k_kks
          have k_kds := hxt32 _ _ k_kds
          have k_ksp := hxt32 _ _ k_ksp
          have k_kkm := hxt32 _ _ k_kkm
          have k_kda := hxt32 _ _ k_kda
          have hXT := ext_tr hXT hxt32
          refine W.widen (k := 2) (n := 4899) (by omega) (by omega) ?_
          refine lv_null hx hb dK_load_95 ?_
          refine mp_v (cx := [(q32, .inr (13, [.int 0, .null, .null]))]) (wr := [(h0, .inr (0, [.ref kt, .int (nI tl), .ref ka, .int (nI al), .ref kp, .int (nI pn), .ref kks, .ref kds, .ref ksp, .ref kkm, .ref kda]))]) hP hD hS hA [1] [0] rfl rfl rfl (by decide) (va_runI (As := [.int (nI 4), .ref q33, .null]) (rest := [.ref q32]) F (t_KP_init16 l g _ T  pl hO hU  (nI 4) q32 q33) (cwI 3 hts (wg_in kw_743) rfl rfl rfl (hts _ (wg_t kw_24)) (hts _ (wg_t kw_741)) (hts _ (wg_t kw_742)) rfl (by decide +kernel) ⟨by decide, by decide⟩) (pp_S (en_ok g) hP hD hS hA hE [1] rfl rfl) rfl rfl hl.1 rfl (lv_room (Nat.le_of_ble_eq_true rfl)) dK_load_96 ⟨Nat.le_of_ble_eq_true rfl, Nat.le_of_ble_eq_true rfl⟩) (fun  pl H locs hu47 hP hD hS => ?_)
          obtain ⟨hq47, hO⟩ := hu47
          have hP : va_P g.1 vcl ([(h0, .inr (0, [.ref kt, .int (nI tl), .ref ka, .int (nI al), .ref kp, .int (nI pn), .ref kks, .ref kds, .ref ksp, .ref kkm, .ref kda])), (q32, .inr (13, [.int (nI 4), .ref q33, .null]))] ++ pl) _ := hP
          have hD : va_D _ ([(h0, .inr (0, [.ref kt, .int (nI tl), .ref ka, .int (nI al), .ref kp, .int (nI pn), .ref kks, .ref kds, .ref ksp, .ref kkm, .ref kda])), (q32, .inr (13, [.int (nI 4), .ref q33, .null]))] ++ pl) := hD
          refine W.widen (k := 2) (n := 4899) (by omega) (by omega) ?_
          obtain ⟨hP, hD⟩ := mv_last (X := [(h0, .inr (0, [.ref kt, .int (nI tl), .ref ka, .int (nI al), .ref kp, .int (nI pn), .ref kks, .ref kds, .ref ksp, .ref kkm, .ref kda]))]) (c := (q32, .inr (13, [.int (nI 4), .ref q33, .null]))) hP hD
          obtain ⟨T, pl, hxt33, hU, kr39, hO, hP, hD, hnk25⟩ := absorb (X := [(h0, .inr (0, [.ref kt, .int (nI tl), .ref ka, .int (nI al), .ref kp, .int (nI pn), .ref kks, .ref kds, .ref ksp, .ref kkm, .ref kda]))]) (16, 4) hP hD hO hU (Or.inl rfl) (fun T9 h9 _ => ⟨_, rfl, ⟨rfl, ⟨_, rfl, (by have h8 := h9 _ _ kr38; rw [show tl = 1952 by omega] at h8; exact h8)⟩, rfl, trivial⟩⟩)
          have k_kt := hxt33 _ _ k_kt
          have k_ka := hxt33 _ _ k_ka
          have k_kp := hxt33 _ _ k_kp
          have k_kks := hxt33 _ _ k_kks
          have k_kds := hxt33 _ _ k_kds
          have k_ksp := hxt33 _ _ k_ksp
          have k_kkm := hxt33 _ _ k_kkm
          have k_kda := hxt33 _ _ k_kda
          have kr38 := hxt33 _ _ kr38
          have hXT := ext_tr hXT hxt33
          have hP : va_P g.1 vcl ([(h0, .inr (0, [.ref kt, .int (nI tl), .ref ka, .int (nI al), .ref kp, .int (nI pn), .ref kks, .ref kds, .ref ksp, .ref kkm, .ref kda]))] ++ pl) _ := hP
          have hD : va_D _ ([(h0, .inr (0, [.ref kt, .int (nI tl), .ref ka, .int (nI al), .ref kp, .int (nI pn), .ref kks, .ref kds, .ref ksp, .ref kkm, .ref kda]))] ++ pl) := hD
          refine lv_astore_n (lv' := [(3, .ref q32), (0, .ref h0), (1, .int (nI 4)), (2, .int (nI 0))]) hx hb dK_load_99 rfl hl (by decide) rfl (fun ls hl => ?_)
          refine lv_aload_n hx hb dK_load_100 rfl (lv_at hl 1 rfl) ?_
          refine lv_iconst (v := nI 0) hx hb dK_load_101 (by decide) ?_
          refine va_put (D := g.1) (ci := 0) (v := .int (nI 0)) (ty := .int) (C := "LatticeKeys") (T := T_K) (N := 11) hx hb hts (wg_ft i_K) ty_K k_K n_K hown hK hP hD hS 0 rfl rfl 1 (by decide) (hts _ (wg_t kw_375)) (fun _ h9 => h9) rfl (by decide +kernel) rfl rfl (Nat.le_of_ble_eq_true rfl) dK_load_102 (fun H locs hP hD hS => ?_)
          have hP : va_P g.1 vcl ([(h0, .inr (0, [.ref kt, .int (nI 0), .ref ka, .int (nI al), .ref kp, .int (nI pn), .ref kks, .ref kds, .ref ksp, .ref kkm, .ref kda]))] ++ pl) _ := hP
          have hD : va_D _ ([(h0, .inr (0, [.ref kt, .int (nI 0), .ref ka, .int (nI al), .ref kp, .int (nI pn), .ref kks, .ref kds, .ref ksp, .ref kkm, .ref kda]))] ++ pl) := hD
          refine lv_aload_n hx hb dK_load_105 rfl (lv_at hl 1 rfl) ?_
          refine lv_aload_n hx hb dK_load_106 rfl (lv_at hl 0 rfl) ?_
          refine mp_i (cx := [(h0, .inr (0, [.ref kt, .int (nI 0), .ref ka, .int (nI al), .ref kp, .int (nI pn), .ref kks, .ref kds, .ref ksp, .ref kkm, .ref kda]))]) (wr := []) hP hD hS hA [0] [] rfl rfl rfl (by decide) (va_runV (As := [.ref q32]) (rest := []) F (t_K_keep16 l g _ T  pl hO hU  q32 4 h0 kt ka kp kks kds ksp kkm kda 0 al pn k_kt k_ka k_kp k_kks k_kds k_ksp k_kkm k_kda kr39 (by omega) (by omega) (by omega)) (cwV 1 hts (wg_app (wg_c kw_760 (wg_c kw_762 (wg_c ks_19 (wg_c kw_1 wg_n)))) kw_763) rfl rfl rfl (by decide +kernel) ⟨by decide, by decide⟩) (pp_V (en_ok g) (q0 := 0) hK hP hD hS hA hE [0] rfl rfl rfl rfl) rfl rfl hl.1 rfl (lv_room (Nat.le_of_ble_eq_true rfl)) dK_load_107 ⟨Nat.le_of_ble_eq_true rfl, Nat.le_of_ble_eq_true rfl⟩) (fun r49 pl H locs hu48 hP hD hS => ?_)
          obtain ⟨hq48, hO⟩ := hu48
          have hP : va_P g.1 vcl ([(h0, .inr (0, [.ref kt, .int (nI 0), .ref ka, .int (nI al), .ref kp, .int (nI (pn + 1)), .ref kks, .ref kds, .ref ksp, .ref kkm, .ref kda]))] ++ pl) _ := hP
          have hD : va_D _ ([(h0, .inr (0, [.ref kt, .int (nI 0), .ref ka, .int (nI al), .ref kp, .int (nI (pn + 1)), .ref kks, .ref kds, .ref ksp, .ref kkm, .ref kda]))] ++ pl) := hD
          obtain rfl := hq48
          refine W.widen (k := 2) (n := 4899) (by omega) (by omega) ?_
          refine et_ret ?_
          exact mp_iret hx hb hr hlk hP hD hS ((T, 0, al, pn + 1), pl) ⟨⟨⟨(by show 0 ≤ 16384; omega), (by show al ≤ 8192; omega), (by show pn + 1 ≤ 8; omega), hXT, hU⟩, trivial⟩, hO⟩ [0] rfl rfl rfl (by omega) (by omega) dK_load_110
        · exact et_throw (own := "LatticeKeys") (cls := "java/lang/IllegalStateException") (text := "no room for more keys") (names := ["java/lang/RuntimeException", "java/lang/Exception"]) (ik := 69) (is := 105) (ic := 73) hx hb htr ctr_ISE_0 ctr_ISE_1 ctr_ISE_2 ctr_ISE_5 hown (by decide) (by decide) (hts _ (wg_t kw_420)) (hts _ (wg_t kw_17)) (hX.2.2.2.2.2.1 4 ("LatticeKeys", 105, "no room for more keys") rfl) (hat_ISE hts hX.2) hS.1 (hl.1.trans hml.symm) dK_load_57 dK_load_60 dK_load_61 dK_load_63 dK_load_66 htab (Nat.le_of_ble_eq_true rfl) (Nat.le_of_ble_eq_true rfl) (Nat.le_of_ble_eq_true rfl) (Nat.le_of_ble_eq_true rfl) hlk (Nat.le_of_ble_eq_true rfl) (Nat.le_of_ble_eq_true rfl) (List.mem_cons_of_mem _ (List.mem_cons_of_mem _ List.mem_cons_self)) hS.2.2 (thr_st hX.2) (fun t hz9 hk9 => ⟨⟨((T, tl, al, pn), pl), ⟨⟨⟨(by show tl ≤ 16384; omega), (by show al ≤ 8192; omega), (by show pn ≤ 8; omega), hXT, hU⟩, trivial⟩, hO⟩, lc_P hP hk9, hD⟩, (lc_S hS hz9 hk9).F rfl⟩)
      · exact absurd hq21.2.1 (by omega)
    | 5, _, hq9 =>
      have hq21 := hq9
      rcases hq21 with hq21 | hq21
      · obtain ⟨rfl, h9⟩ := hq21
        have h9 : tl = 2592 := h9
        refine lv_if_ne (tgt := 19) hx hb dK_load_6 (by decide) (fun h57 => ?_) (fun h57 => absurd h57 (by decide))
        refine lv_iload_n hx hb dK_load_19 rfl (lv_at hl 1 rfl) ?_
        refine lv_iconst (v := nI 3) hx hb dK_load_20 (by decide) ?_
        refine mi_ge (tgt := 48) hx hb dK_load_21 (by decide) (by omega) (by omega) (fun h58 => ?_) (fun h58 => absurd h58 (by omega))
        refine lv_aload_n hx hb dK_load_48 rfl (lv_at hl 0 rfl) ?_
        refine va_get (D := g.1) (ci := 0) (C := "LatticeKeys") (T := T_K) (N := 11) hx hb hts (wg_ft i_K) hown hK hP 0 rfl rfl 5 (by decide) (hts _ (wg_t kw_379)) (fun _ h9 => h9) rfl dK_load_49 ?_
        refine lv_bipush (v := nI 8) hx hb dK_load_52 (by decide) ?_
        refine mi_lt (tgt := 67) hx hb dK_load_54 (by decide) (by omega) (by omega) (fun h59 => ?_) (fun h59 => ?_)
        · refine lv_iload_n hx hb dK_load_67 rfl (lv_at hl 2 rfl) ?_
          refine lv_if_eq (tgt := 79) hx hb dK_load_68 (by decide) (fun h60 => ?_) (fun h60 => absurd h60 (by decide))
          refine va_new (ws := [(h0, .inr (0, [.ref kt, .int (nI tl), .ref ka, .int (nI al), .ref kp, .int (nI pn), .ref kks, .ref kds, .ref ksp, .ref kkm, .ref kda]))] ++ pl) (ci := 13) (fs := [.int 0, .null, .null]) (C := "LatticeKeys$KeyPair") (T := T_KP) (N := 3) hx hb hts (wg_ft i_KP) ty_KP k_KP hown (hts _ (wg_t kw_43)) (hts _ (wg_t kw_740)) (hts _ (wg_t kw_24)) hK hP hD hS hA rfl z_KP (Nat.le_of_ble_eq_true rfl) (Nat.le_of_ble_eq_true rfl) dK_load_79 (fun q34 H hP hD hS => ?_)
          obtain ⟨hP, hD⟩ := mv_first hP hD
          have hP : va_P g.1 vcl ([(h0, .inr (0, [.ref kt, .int (nI tl), .ref ka, .int (nI al), .ref kp, .int (nI pn), .ref kks, .ref kds, .ref ksp, .ref kkm, .ref kda])), (q34, .inr (13, [.int 0, .null, .null]))] ++ pl) _ := hP
          have hD : va_D _ ([(h0, .inr (0, [.ref kt, .int (nI tl), .ref ka, .int (nI al), .ref kp, .int (nI pn), .ref kks, .ref kds, .ref ksp, .ref kkm, .ref kda])), (q34, .inr (13, [.int 0, .null, .null]))] ++ pl) := hD
          refine W.widen (k := 1) (n := 3) (by omega) (by omega) ?_
          refine lv_dup hx hb dK_load_82 rfl ?_
          refine lv_iload_n hx hb dK_load_83 rfl (lv_at hl 1 rfl) ?_
          refine lv_aload_n hx hb dK_load_84 rfl (lv_at hl 0 rfl) ?_
          refine va_get (D := g.1) (ci := 0) (C := "LatticeKeys") (T := T_K) (N := 11) hx hb hts (wg_ft i_K) hown hK hP 0 rfl rfl 0 (by decide) (hts _ (wg_t kw_374)) (fun _ h9 => h9) rfl dK_load_85 ?_
          refine lv_aload_n hx hb dK_load_88 rfl (lv_at hl 0 rfl) ?_
          refine va_get (D := g.1) (ci := 0) (C := "LatticeKeys") (T := T_K) (N := 11) hx hb hts (wg_ft i_K) hown hK hP 0 rfl rfl 1 (by decide) (hts _ (wg_t kw_375)) (fun _ h9 => h9) rfl dK_load_89 ?_
          refine mp_q (cx := []) (wr := [(h0, .inr (0, [.ref kt, .int (nI tl), .ref ka, .int (nI al), .ref kp, .int (nI pn), .ref kks, .ref kds, .ref ksp, .ref kkm, .ref kda])), (q34, .inr (13, [.int 0, .null, .null]))]) hP hD hS hA [] [0, 1] rfl rfl rfl (by decide) (va_runS (As := [.ref kt, .int (nI tl)]) (rest := [.int (nI 5), .ref q34, .ref q34]) F (t_AR_copyOf l g _ T  pl hO hU  kt 16384 tl k_kt (by omega) (by omega) (by omega)) (va_cwS 2 hts (wg_app (wg_c kw_1047 (wg_c kw_880 (wg_c kw_21 wg_n))) kw_881) rfl rfl rfl (by decide +kernel) ⟨by decide, by decide⟩) (pp_S (en_ok g) hP hD hS hA hE [] rfl rfl) rfl rfl hl.1 rfl (lv_room (Nat.le_of_ble_eq_true rfl)) dK_load_92 ⟨Nat.le_of_ble_eq_true rfl, Nat.le_of_ble_eq_true rfl⟩) (fun r50 u29 H locs hu49 hP hD hS => ?_)
          obtain ⟨T, pl⟩ := u29
          obtain ⟨hq49, hO⟩ := hu49
          have hP : va_P g.1 vcl ([(h0, .inr (0, [.ref kt, .int (nI tl), .ref ka, .int (nI al), .ref kp, .int (nI pn), .ref kks, .ref kds, .ref ksp, .ref kkm, .ref kda])), (q34, .inr (13, [.int 0, .null, .null]))] ++ pl) _ := hP
          have hD : va_D _ ([(h0, .inr (0, [.ref kt, .int (nI tl), .ref ka, .int (nI al), .ref kp, .int (nI pn), .ref kks, .ref kds, .ref ksp, .ref kkm, .ref kda])), (q34, .inr (13, [.int 0, .null, .null]))] ++ pl) := hD
          obtain ⟨hxt34, hU, q35, rfl, kr40⟩ := hq49
          have k_kt := hxt34 _ _ k_kt
          have k_ka := hxt34 _ _ k_ka
          have k_kp := hxt34 _ _ k_kp
          have k_kks := hxt34 _ _ k_kks
          have k_kds := hxt34 _ _ k_kds
          have k_ksp := hxt34 _ _ k_ksp
          have k_kkm := hxt34 _ _ k_kkm
          have k_kda := hxt34 _ _ k_kda
          have hXT := ext_tr hXT hxt34
          refine W.widen (k := 2) (n := 4899) (by omega) (by omega) ?_
          refine lv_null hx hb dK_load_95 ?_
          refine mp_v (cx := [(q34, .inr (13, [.int 0, .null, .null]))]) (wr := [(h0, .inr (0, [.ref kt, .int (nI tl), .ref ka, .int (nI al), .ref kp, .int (nI pn), .ref kks, .ref kds, .ref ksp, .ref kkm, .ref kda]))]) hP hD hS hA [1] [0] rfl rfl rfl (by decide) (va_runI (As := [.int (nI 5), .ref q35, .null]) (rest := [.ref q34]) F (t_KP_init16 l g _ T  pl hO hU  (nI 5) q34 q35) (cwI 3 hts (wg_in kw_743) rfl rfl rfl (hts _ (wg_t kw_24)) (hts _ (wg_t kw_741)) (hts _ (wg_t kw_742)) rfl (by decide +kernel) ⟨by decide, by decide⟩) (pp_S (en_ok g) hP hD hS hA hE [1] rfl rfl) rfl rfl hl.1 rfl (lv_room (Nat.le_of_ble_eq_true rfl)) dK_load_96 ⟨Nat.le_of_ble_eq_true rfl, Nat.le_of_ble_eq_true rfl⟩) (fun  pl H locs hu50 hP hD hS => ?_)
          obtain ⟨hq50, hO⟩ := hu50
          have hP : va_P g.1 vcl ([(h0, .inr (0, [.ref kt, .int (nI tl), .ref ka, .int (nI al), .ref kp, .int (nI pn), .ref kks, .ref kds, .ref ksp, .ref kkm, .ref kda])), (q34, .inr (13, [.int (nI 5), .ref q35, .null]))] ++ pl) _ := hP
          have hD : va_D _ ([(h0, .inr (0, [.ref kt, .int (nI tl), .ref ka, .int (nI al), .ref kp, .int (nI pn), .ref kks, .ref kds, .ref ksp, .ref kkm, .ref kda])), (q34, .inr (13, [.int (nI 5), .ref q35, .null]))] ++ pl) := hD
          refine W.widen (k := 2) (n := 4899) (by omega) (by omega) ?_
          obtain ⟨hP, hD⟩ := mv_last (X := [(h0, .inr (0, [.ref kt, .int (nI tl), .ref ka, .int (nI al), .ref kp, .int (nI pn), .ref kks, .ref kds, .ref ksp, .ref kkm, .ref kda]))]) (c := (q34, .inr (13, [.int (nI 5), .ref q35, .null]))) hP hD
          obtain ⟨T, pl, hxt35, hU, kr41, hO, hP, hD, hnk26⟩ := absorb (X := [(h0, .inr (0, [.ref kt, .int (nI tl), .ref ka, .int (nI al), .ref kp, .int (nI pn), .ref kks, .ref kds, .ref ksp, .ref kkm, .ref kda]))]) (16, 5) hP hD hO hU (Or.inl rfl) (fun T9 h9 _ => ⟨_, rfl, ⟨rfl, ⟨_, rfl, (by have h8 := h9 _ _ kr40; rw [show tl = 2592 by omega] at h8; exact h8)⟩, rfl, trivial⟩⟩)
          have k_kt := hxt35 _ _ k_kt
          have k_ka := hxt35 _ _ k_ka
          have k_kp := hxt35 _ _ k_kp
          have k_kks := hxt35 _ _ k_kks
          have k_kds := hxt35 _ _ k_kds
          have k_ksp := hxt35 _ _ k_ksp
          have k_kkm := hxt35 _ _ k_kkm
          have k_kda := hxt35 _ _ k_kda
          have kr40 := hxt35 _ _ kr40
          have hXT := ext_tr hXT hxt35
          have hP : va_P g.1 vcl ([(h0, .inr (0, [.ref kt, .int (nI tl), .ref ka, .int (nI al), .ref kp, .int (nI pn), .ref kks, .ref kds, .ref ksp, .ref kkm, .ref kda]))] ++ pl) _ := hP
          have hD : va_D _ ([(h0, .inr (0, [.ref kt, .int (nI tl), .ref ka, .int (nI al), .ref kp, .int (nI pn), .ref kks, .ref kds, .ref ksp, .ref kkm, .ref kda]))] ++ pl) := hD
          refine lv_astore_n (lv' := [(3, .ref q34), (0, .ref h0), (1, .int (nI 5)), (2, .int (nI 0))]) hx hb dK_load_99 rfl hl (by decide) rfl (fun ls hl => ?_)
          refine lv_aload_n hx hb dK_load_100 rfl (lv_at hl 1 rfl) ?_
          refine lv_iconst (v := nI 0) hx hb dK_load_101 (by decide) ?_
          refine va_put (D := g.1) (ci := 0) (v := .int (nI 0)) (ty := .int) (C := "LatticeKeys") (T := T_K) (N := 11) hx hb hts (wg_ft i_K) ty_K k_K n_K hown hK hP hD hS 0 rfl rfl 1 (by decide) (hts _ (wg_t kw_375)) (fun _ h9 => h9) rfl (by decide +kernel) rfl rfl (Nat.le_of_ble_eq_true rfl) dK_load_102 (fun H locs hP hD hS => ?_)
          have hP : va_P g.1 vcl ([(h0, .inr (0, [.ref kt, .int (nI 0), .ref ka, .int (nI al), .ref kp, .int (nI pn), .ref kks, .ref kds, .ref ksp, .ref kkm, .ref kda]))] ++ pl) _ := hP
          have hD : va_D _ ([(h0, .inr (0, [.ref kt, .int (nI 0), .ref ka, .int (nI al), .ref kp, .int (nI pn), .ref kks, .ref kds, .ref ksp, .ref kkm, .ref kda]))] ++ pl) := hD
          refine lv_aload_n hx hb dK_load_105 rfl (lv_at hl 1 rfl) ?_
          refine lv_aload_n hx hb dK_load_106 rfl (lv_at hl 0 rfl) ?_
          refine mp_i (cx := [(h0, .inr (0, [.ref kt, .int (nI 0), .ref ka, .int (nI al), .ref kp, .int (nI pn), .ref kks, .ref kds, .ref ksp, .ref kkm, .ref kda]))]) (wr := []) hP hD hS hA [0] [] rfl rfl rfl (by decide) (va_runV (As := [.ref q34]) (rest := []) F (t_K_keep16 l g _ T  pl hO hU  q34 5 h0 kt ka kp kks kds ksp kkm kda 0 al pn k_kt k_ka k_kp k_kks k_kds k_ksp k_kkm k_kda kr41 (by omega) (by omega) (by omega)) (cwV 1 hts (wg_app (wg_c kw_760 (wg_c kw_762 (wg_c ks_19 (wg_c kw_1 wg_n)))) kw_763) rfl rfl rfl (by decide +kernel) ⟨by decide, by decide⟩) (pp_V (en_ok g) (q0 := 0) hK hP hD hS hA hE [0] rfl rfl rfl rfl) rfl rfl hl.1 rfl (lv_room (Nat.le_of_ble_eq_true rfl)) dK_load_107 ⟨Nat.le_of_ble_eq_true rfl, Nat.le_of_ble_eq_true rfl⟩) (fun r51 pl H locs hu51 hP hD hS => ?_)
          obtain ⟨hq51, hO⟩ := hu51
          have hP : va_P g.1 vcl ([(h0, .inr (0, [.ref kt, .int (nI 0), .ref ka, .int (nI al), .ref kp, .int (nI (pn + 1)), .ref kks, .ref kds, .ref ksp, .ref kkm, .ref kda]))] ++ pl) _ := hP
          have hD : va_D _ ([(h0, .inr (0, [.ref kt, .int (nI 0), .ref ka, .int (nI al), .ref kp, .int (nI (pn + 1)), .ref kks, .ref kds, .ref ksp, .ref kkm, .ref kda]))] ++ pl) := hD
          obtain rfl := hq51
          refine W.widen (k := 2) (n := 4899) (by omega) (by omega) ?_
          refine et_ret ?_
          exact mp_iret hx hb hr hlk hP hD hS ((T, 0, al, pn + 1), pl) ⟨⟨⟨(by show 0 ≤ 16384; omega), (by show al ≤ 8192; omega), (by show pn + 1 ≤ 8; omega), hXT, hU⟩, trivial⟩, hO⟩ [0] rfl rfl rfl (by omega) (by omega) dK_load_110
        · exact et_throw (own := "LatticeKeys") (cls := "java/lang/IllegalStateException") (text := "no room for more keys") (names := ["java/lang/RuntimeException", "java/lang/Exception"]) (ik := 69) (is := 105) (ic := 73) hx hb htr ctr_ISE_0 ctr_ISE_1 ctr_ISE_2 ctr_ISE_5 hown (by decide) (by decide) (hts _ (wg_t kw_420)) (hts _ (wg_t kw_17)) (hX.2.2.2.2.2.1 4 ("LatticeKeys", 105, "no room for more keys") rfl) (hat_ISE hts hX.2) hS.1 (hl.1.trans hml.symm) dK_load_57 dK_load_60 dK_load_61 dK_load_63 dK_load_66 htab (Nat.le_of_ble_eq_true rfl) (Nat.le_of_ble_eq_true rfl) (Nat.le_of_ble_eq_true rfl) (Nat.le_of_ble_eq_true rfl) hlk (Nat.le_of_ble_eq_true rfl) (Nat.le_of_ble_eq_true rfl) (List.mem_cons_of_mem _ (List.mem_cons_of_mem _ List.mem_cons_self)) hS.2.2 (thr_st hX.2) (fun t hz9 hk9 => ⟨⟨((T, tl, al, pn), pl), ⟨⟨⟨(by show tl ≤ 16384; omega), (by show al ≤ 8192; omega), (by show pn ≤ 8; omega), hXT, hU⟩, trivial⟩, hO⟩, lc_P hP hk9, hD⟩, (lc_S hS hz9 hk9).F rfl⟩)
      · exact absurd hq21.2.1 (by omega)
    | _ + 6, h9, _ => exact absurd h9 (by omega)
set_option maxHeartbeats 4000000 in
set_option maxRecDepth 100000 in
theorem e_K_seal (l : Launch) (htr : l.stackTraces = false) (g : Gd) (sz : Nat) (T : Ty) (pl : va_W) (hO : okx g T [] pl) (hU : uni T) (v : Int32) (h0 kt ka kp kks kds ksp kkm kda tl al pn : Nat) (k_kt : T kt = some (1, 16384)) (k_ka : T ka = some (1, 8192)) (k_kp : T kp = some (6, 0)) (k_kks : T kks = some (50, 0)) (k_kds : T kds = some (51, 0)) (k_ksp : T ksp = some (10, 0)) (k_kkm : T kkm = some (13, 0)) (k_kda : T kda = some (15, 0)) (hb : tl ≤ 16384 ∧ al ≤ 8192 ∧ pn ≤ 8)  : etMet l y_K_seal w_K_seal ({ frames := 6, cells := 1, slots := 6, locals := 180 } : Room) (va_Pc [.ref h0, .int v] (pr (ex g) g.1 vcl sz ([(h0, .inr (0, [.ref kt, .int (nI tl), .ref ka, .int (nI al), .ref kp, .int (nI pn), .ref kks, .ref kds, .ref ksp, .ref kkm, .ref kda]))] ++ pl))) ["java/util/NoSuchElementException", "java/lang/IllegalArgumentException"] (va_Qi (fun (r : Int32) (u : (Ty × Nat × Nat × Nat) × va_W) => ((u.1.2.1 ≤ 16384 ∧ u.1.2.2.1 ≤ 8192 ∧ u.1.2.2.2 ≤ 8 ∧ ext T u.1.1 ∧ uni u.1.1) ∧ (True)) ∧ okx g u.1.1 [] u.2) (po g.1 vcl (va_A ([(h0, .inr (0, [.ref kt, .int (nI tl), .ref ka, .int (nI al), .ref kp, .int (nI pn), .ref kks, .ref kds, .ref ksp, .ref kkm, .ref kda]))] ++ pl) sz) (fun (u : (Ty × Nat × Nat × Nat) × va_W) => [(h0, .inr (0, [.ref kt, .int (nI (u.1.2.1)), .ref ka, .int (nI (u.1.2.2.1)), .ref kp, .int (nI (u.1.2.2.2)), .ref kks, .ref kds, .ref ksp, .ref kkm, .ref kda]))] ++ u.2)) (va_A ([(h0, .inr (0, [.ref kt, .int (nI tl), .ref ka, .int (nI al), .ref kp, .int (nI pn), .ref kks, .ref kds, .ref ksp, .ref kkm, .ref kda]))] ++ pl) sz)) (xtP (fun (u : (Ty × Nat × Nat × Nat) × va_W) => ((u.1.2.1 ≤ 16384 ∧ u.1.2.2.1 ≤ 8192 ∧ u.1.2.2.2 ≤ 8 ∧ ext T u.1.1 ∧ uni u.1.1) ∧ (True)) ∧ okx g u.1.1 [] u.2) (po g.1 vcl (va_A ([(h0, .inr (0, [.ref kt, .int (nI tl), .ref ka, .int (nI al), .ref kp, .int (nI pn), .ref kks, .ref kds, .ref ksp, .ref kkm, .ref kda]))] ++ pl) sz) (fun (u : (Ty × Nat × Nat × Nat) × va_W) => [(h0, .inr (0, [.ref kt, .int (nI (u.1.2.1)), .ref ka, .int (nI (u.1.2.2.1)), .ref kp, .int (nI (u.1.2.2.2)), .ref kks, .ref kds, .ref ksp, .ref kkm, .ref kda]))] ++ u.2)) (va_A ([(h0, .inr (0, [.ref kt, .int (nI tl), .ref ka, .int (nI al), .ref kp, .int (nI pn), .ref kks, .ref kds, .ref ksp, .ref kkm, .ref kda]))] ++ pl) sz)) 1 6 (va_A ([(h0, .inr (0, [.ref kt, .int (nI tl), .ref ka, .int (nI al), .ref kp, .int (nI pn), .ref kks, .ref kds, .ref ksp, .ref kkm, .ref kda]))] ++ pl) sz) := by
  refine et_entry (cc := c_K_seal) (maxL := 4) (ret := (some .int)) (by decide) rfl (Nat.le_of_ble_eq_true rfl) ?_
  intro p e s m args below meth c ls F hr hlk htab hsz hP hD hX hA hl
  obtain ⟨hx, hb, hml, hown, hts⟩ := id F
  have hE := hX.1
  have hK := hE.1
  generalize va_A ([(h0, .inr (0, [.ref kt, .int (nI tl), .ref ka, .int (nI al), .ref kp, .int (nI pn), .ref kks, .ref kds, .ref ksp, .ref kkm, .ref kda]))] ++ pl) sz = A at hD hX hE hA ⊢
  have hXT : ext T T := ext_rf
  have hS : va_S A s.heap s.heap [] := va_S.rf
  have hl : lv_has ls 4 [(0, .ref h0), (1, .int v)] := hl
  refine lv_aload_n hx hb dK_seal_0 rfl (lv_at hl 0 rfl) ?_
  refine lv_iload_n hx hb dK_seal_1 rfl (lv_at hl 1 rfl) ?_
  refine mp_q (cx := [(h0, .inr (0, [.ref kt, .int (nI tl), .ref ka, .int (nI al), .ref kp, .int (nI pn), .ref kks, .ref kds, .ref ksp, .ref kkm, .ref kda]))]) (wr := []) hP hD hS hA [0] [] rfl rfl rfl (by decide) (va_runV (As := [.int v]) (rest := []) F (t_K_findKem l g _ T  pl hO hU  v h0 kt ka kp kks kds ksp kkm kda tl al pn k_kt k_ka k_kp k_kks k_kds k_ksp k_kkm k_kda (by omega)) (cwV 1 hts (wg_app (wg_c kw_1104 (wg_c kw_1106 (wg_c ks_25 (wg_c kw_1 wg_n)))) kw_1107) rfl rfl rfl (by decide +kernel) ⟨by decide, by decide⟩) (pp_V (en_ok g) (q0 := 0) hK hP hD hS hA hE [0] rfl rfl rfl rfl) rfl rfl hl.1 rfl (lv_room (Nat.le_of_ble_eq_true rfl)) dK_seal_2 ⟨Nat.le_of_ble_eq_true rfl, Nat.le_of_ble_eq_true rfl⟩) (fun r21 pl H locs hu21 hP hD hS => ?_)
  obtain ⟨hq21, hO⟩ := hu21
  have hP : va_P g.1 vcl ([(h0, .inr (0, [.ref kt, .int (nI tl), .ref ka, .int (nI al), .ref kp, .int (nI pn), .ref kks, .ref kds, .ref ksp, .ref kkm, .ref kda]))] ++ pl) _ := hP
  have hD : va_D _ ([(h0, .inr (0, [.ref kt, .int (nI tl), .ref ka, .int (nI al), .ref kp, .int (nI pn), .ref kks, .ref kds, .ref ksp, .ref kkm, .ref kda]))] ++ pl) := hD
  refine W.widen (k := 0) (n := 0) (by omega) (by omega) ?_
  match r21, hq21 with
  | none, _ =>
    refine lv_astore_nN (lv' := [(2, .null), (0, .ref h0), (1, .int v)]) hx hb dK_seal_5 rfl hl (by decide) rfl (fun ls hl => ?_)
    refine lv_aload_nN hx hb dK_seal_6 rfl (lv_at hl 0 rfl) ?_
    refine lv_ifnonnullN hx hb dK_seal_7 ?_
    exact et_throw (own := "LatticeKeys") (cls := "java/util/NoSuchElementException") (text := "no such keys of ML-KEM") (names := ["java/lang/RuntimeException", "java/lang/Exception"]) (ik := 156) (is := 182) (ic := 160) hx hb htr ctr_NSE_0 ctr_NSE_1 ctr_NSE_2 ctr_NSE_5 hown (by decide) (by decide) (hts _ (wg_t kw_1064)) (hts _ (wg_t kw_34)) (hX.2.2.2.2.2.1 11 ("LatticeKeys", 182, "no such keys of ML-KEM") rfl) (hat_NSE hts hX.2) hS.1 (hl.1.trans hml.symm) dK_seal_10 dK_seal_13 dK_seal_14 dK_seal_16 dK_seal_19 htab (Nat.le_of_ble_eq_true rfl) (Nat.le_of_ble_eq_true rfl) (Nat.le_of_ble_eq_true rfl) (Nat.le_of_ble_eq_true rfl) hlk (Nat.le_of_ble_eq_true rfl) (Nat.le_of_ble_eq_true rfl) List.mem_cons_self hS.2.2 (thr_st hX.2) (fun t hz9 hk9 => ⟨⟨((T, tl, al, pn), pl), ⟨⟨⟨(by show tl ≤ 16384; omega), (by show al ≤ 8192; omega), (by show pn ≤ 8; omega), hXT, hU⟩, trivial⟩, hO⟩, lc_P hP hk9, hD⟩, (lc_S hS hz9 hk9).F rfl⟩)
  | some q21, hq9 =>
    obtain ⟨s9, hs9, hk9⟩ := hq9 q21 rfl
    rcases hk9 with hk9 | hk9
    · match s9, hs9, hk9 with
      | 0, _, hk9 =>
        have kr21 : T q21 = some (17, 0) := hk9
        refine lv_astore_n (lv' := [(2, .ref q21), (0, .ref h0), (1, .int v)]) hx hb dK_seal_5 rfl hl (by decide) rfl (fun ls hl => ?_)
        refine lv_aload_n hx hb dK_seal_6 rfl (lv_at hl 0 rfl) ?_
        refine lv_ifnonnull (tgt := 20) hx hb dK_seal_7 (by decide) ?_
        refine lv_aload_n hx hb dK_seal_20 rfl (lv_at hl 1 rfl) ?_
        refine va_get (D := g.1) (ci := 0) (C := "LatticeKeys") (T := T_K) (N := 11) hx hb hts (wg_ft i_K) hown hK hP 0 rfl rfl 1 (by decide) (hts _ (wg_t kw_375)) (fun _ h9 => h9) rfl dK_seal_21 ?_
        refine lv_bipush (v := nI 32) hx hb dK_seal_24 (by decide) ?_
        refine mi_eq (tgt := 39) hx hb dK_seal_26 (by decide) (by omega) (by omega) (fun h21 => ?_) (fun h21 => ?_)
        · refine lv_aload_n hx hb dK_seal_39 rfl (lv_at hl 1 rfl) ?_
          refine va_get (D := g.1) (ci := 0) (C := "LatticeKeys") (T := T_K) (N := 11) hx hb hts (wg_ft i_K) hown hK hP 0 rfl rfl 6 (by decide) (hts _ (wg_t kw_380)) (fun _ h9 => h9) rfl dK_seal_40 ?_
          refine lv_aload_n hx hb dK_seal_43 rfl (lv_at hl 0 rfl) ?_
          refine ty_get (ci := 13) (C := "LatticeKeys$KeyPair") (TT := T_KP) (N := 3) (kd := (17, 0)) hx hb hts (wg_ft i_KP) hown hK hO kr21 (nxg clo_nil kr21 rfl) hP (fun _ h9 => h9) rfl 0 (by decide) (hts _ (wg_t kw_746)) (fun _ h9 => h9) (cd := (1, 0, 0)) rfl dK_seal_44 (fun v21 hv21 => ?_)
          obtain rfl := (show v21 = .int (nI 0) from hv21)
          refine ty_aald50 hx hb hK hO k_kks (nxg clo_nil k_kks rfl) hP (by omega) dK_seal_47 (fun r22 kr22 => ?_)
          refine lv_astore_n (lv' := [(3, .ref r22), (2, .ref q21), (0, .ref h0), (1, .int v)]) hx hb dK_seal_48 rfl hl (by decide) rfl (fun ls hl => ?_)
          refine lv_aload_n hx hb dK_seal_49 rfl (lv_at hl 2 rfl) ?_
          refine va_get (D := g.1) (ci := 0) (C := "LatticeKeys") (T := T_K) (N := 11) hx hb hts (wg_ft i_K) hown hK hP 0 rfl rfl 9 (by decide) (hts _ (wg_t kw_383)) (fun _ h9 => h9) rfl dK_seal_50 ?_
          refine lv_aload_n hx hb dK_seal_53 rfl (lv_at hl 0 rfl) ?_
          refine lv_aload_n hx hb dK_seal_54 rfl (lv_at hl 1 rfl) ?_
          refine ty_get (ci := 13) (C := "LatticeKeys$KeyPair") (TT := T_KP) (N := 3) (kd := (17, 0)) hx hb hts (wg_ft i_KP) hown hK hO kr21 (nxg clo_nil kr21 rfl) hP (fun _ h9 => h9) rfl 1 (by decide) (hts _ (wg_t kw_749)) (fun _ h9 => h9) (cd := (3, 1, 800)) rfl dK_seal_55 (fun v22 hv22 => ?_)
          obtain ⟨r23, rfl, kr23⟩ := (show ∃ r : Nat, v22 = .ref r ∧ T r = some (1, 800) from hv22)
          refine lv_aload_n hx hb dK_seal_58 rfl (lv_at hl 2 rfl) ?_
          refine va_get (D := g.1) (ci := 0) (C := "LatticeKeys") (T := T_K) (N := 11) hx hb hts (wg_ft i_K) hown hK hP 0 rfl rfl 0 (by decide) (hts _ (wg_t kw_374)) (fun _ h9 => h9) rfl dK_seal_59 ?_
          refine lv_aload_n hx hb dK_seal_62 rfl (lv_at hl 2 rfl) ?_
          refine va_get (D := g.1) (ci := 0) (C := "LatticeKeys") (T := T_K) (N := 11) hx hb hts (wg_ft i_K) hown hK hP 0 rfl rfl 2 (by decide) (hts _ (wg_t kw_376)) (fun _ h9 => h9) rfl dK_seal_63 ?_
          refine mp_v (cx := []) (wr := [(h0, .inr (0, [.ref kt, .int (nI tl), .ref ka, .int (nI al), .ref kp, .int (nI pn), .ref kks, .ref kds, .ref ksp, .ref kkm, .ref kda]))]) hP hD hS hA [] [0] rfl rfl rfl (by decide) (va_runV (As := [.ref r22, .ref r23, .ref kt, .ref ka]) (rest := []) F (t_KM_encapsulate_0 l g _ T [] pl hO hU clo_nil clo_nil kkm r22 r23 kt ka 16384 k_kkm kr22 kr23 k_kt k_ka (by omega) (by omega)) (cwV 4 hts (wg_app (wg_c kw_1110 (wg_c kw_1111 (wg_c kw_1112 (wg_c kw_3 wg_n)))) kw_1113) rfl rfl rfl (by decide +kernel) ⟨by decide, by decide⟩) (pp_VT (en_ok g) (ci := 5) (kd := (13, 0)) hK hO k_kkm (nxg clo_nil k_kkm rfl) (fun _ h9 => ko1 h9) hP hD hS hA hE [] rfl rfl rfl) rfl rfl hl.1 rfl (lv_room (Nat.le_of_ble_eq_true rfl)) dK_seal_66 ⟨Nat.le_of_ble_eq_true rfl, Nat.le_of_ble_eq_true rfl⟩) (fun  pl H locs hu22 hP hD hS => ?_)
          obtain ⟨hq22, hO⟩ := hu22
          have hP : va_P g.1 vcl ([(h0, .inr (0, [.ref kt, .int (nI tl), .ref ka, .int (nI al), .ref kp, .int (nI pn), .ref kks, .ref kds, .ref ksp, .ref kkm, .ref kda]))] ++ pl) _ := hP
          have hD : va_D _ ([(h0, .inr (0, [.ref kt, .int (nI tl), .ref ka, .int (nI al), .ref kp, .int (nI pn), .ref kks, .ref kds, .ref ksp, .ref kkm, .ref kda]))] ++ pl) := hD
          refine W.widen (k := 0) (n := 0) (by omega) (by omega) ?_
          refine lv_aload_n hx hb dK_seal_69 rfl (lv_at hl 2 rfl) ?_
          refine lv_iconst (v := nI 0) hx hb dK_seal_70 (by decide) ?_
          refine va_put (D := g.1) (ci := 0) (v := .int (nI 0)) (ty := .int) (C := "LatticeKeys") (T := T_K) (N := 11) hx hb hts (wg_ft i_K) ty_K k_K n_K hown hK hP hD hS 0 rfl rfl 1 (by decide) (hts _ (wg_t kw_375)) (fun _ h9 => h9) rfl (by decide +kernel) rfl rfl (Nat.le_of_ble_eq_true rfl) dK_seal_71 (fun H locs hP hD hS => ?_)
          have hP : va_P g.1 vcl ([(h0, .inr (0, [.ref kt, .int (nI 0), .ref ka, .int (nI al), .ref kp, .int (nI pn), .ref kks, .ref kds, .ref ksp, .ref kkm, .ref kda]))] ++ pl) _ := hP
          have hD : va_D _ ([(h0, .inr (0, [.ref kt, .int (nI 0), .ref ka, .int (nI al), .ref kp, .int (nI pn), .ref kks, .ref kds, .ref ksp, .ref kkm, .ref kda]))] ++ pl) := hD
          refine lv_aload_n hx hb dK_seal_74 rfl (lv_at hl 2 rfl) ?_
          refine lv_aload_n hx hb dK_seal_75 rfl (lv_at hl 0 rfl) ?_
          refine ty_get (ci := 1) (C := "LatticeKeys$KemSet") (TT := T_KS) (N := 10) (kd := (40, 0)) hx hb hts (wg_ft i_KS) hown hK hO kr22 (nxg clo_nil kr22 rfl) hP (fun _ h9 => h9) rfl 6 (by decide) (hts _ (wg_t kw_245)) (fun _ h9 => h9) (cd := (1, 0, 768)) rfl dK_seal_76 (fun v23 hv23 => ?_)
          obtain rfl := (show v23 = .int (nI 768) from hv23)
          refine lv_bipush (v := nI 32) hx hb dK_seal_79 (by decide) ?_
          refine mi_iadd hx hb dK_seal_81 ?_
          refine mi_as (show nI (768 + 32) = nI 800 from rfl) ?_
          refine va_put (D := g.1) (ci := 0) (v := .int (nI 800)) (ty := .int) (C := "LatticeKeys") (T := T_K) (N := 11) hx hb hts (wg_ft i_K) ty_K k_K n_K hown hK hP hD hS 0 rfl rfl 3 (by decide) (hts _ (wg_t kw_377)) (fun _ h9 => h9) rfl (by decide +kernel) rfl rfl (Nat.le_of_ble_eq_true rfl) dK_seal_82 (fun H locs hP hD hS => ?_)
          have hP : va_P g.1 vcl ([(h0, .inr (0, [.ref kt, .int (nI 0), .ref ka, .int (nI 800), .ref kp, .int (nI pn), .ref kks, .ref kds, .ref ksp, .ref kkm, .ref kda]))] ++ pl) _ := hP
          have hD : va_D _ ([(h0, .inr (0, [.ref kt, .int (nI 0), .ref ka, .int (nI 800), .ref kp, .int (nI pn), .ref kks, .ref kds, .ref ksp, .ref kkm, .ref kda]))] ++ pl) := hD
          refine lv_aload_n hx hb dK_seal_85 rfl (lv_at hl 2 rfl) ?_
          refine va_get (D := g.1) (ci := 0) (C := "LatticeKeys") (T := T_K) (N := 11) hx hb hts (wg_ft i_K) hown hK hP 0 rfl rfl 3 (by decide) (hts _ (wg_t kw_377)) (fun _ h9 => h9) rfl dK_seal_86 ?_
          refine et_ret ?_
          exact mp_iret hx hb hr hlk hP hD hS ((T, 0, 800, pn), pl) ⟨⟨⟨(by show 0 ≤ 16384; omega), (by show 800 ≤ 8192; omega), (by show pn ≤ 8; omega), hXT, hU⟩, trivial⟩, hO⟩ [0] rfl rfl rfl (by omega) (by omega) dK_seal_89
        · exact et_throw (own := "LatticeKeys") (cls := "java/lang/IllegalArgumentException") (text := "the tape is not 32 bytes long") (names := ["java/lang/RuntimeException", "java/lang/Exception"]) (ik := 79) (is := 184) (ic := 83) hx hb htr ctr_IAE_0 ctr_IAE_1 ctr_IAE_2 ctr_IAE_5 hown (by decide) (by decide) (hts _ (wg_t kw_501)) (hts _ (wg_t kw_18)) (hX.2.2.2.2.2.1 12 ("LatticeKeys", 184, "the tape is not 32 bytes long") rfl) (hat_IAE hts hX.2) hS.1 (hl.1.trans hml.symm) dK_seal_29 dK_seal_32 dK_seal_33 dK_seal_35 dK_seal_38 htab (Nat.le_of_ble_eq_true rfl) (Nat.le_of_ble_eq_true rfl) (Nat.le_of_ble_eq_true rfl) (Nat.le_of_ble_eq_true rfl) hlk (Nat.le_of_ble_eq_true rfl) (Nat.le_of_ble_eq_true rfl) (List.mem_cons_of_mem _ List.mem_cons_self) hS.2.2 (thr_st hX.2) (fun t hz9 hk9 => ⟨⟨((T, tl, al, pn), pl), ⟨⟨⟨(by show tl ≤ 16384; omega), (by show al ≤ 8192; omega), (by show pn ≤ 8; omega), hXT, hU⟩, trivial⟩, hO⟩, lc_P hP hk9, hD⟩, (lc_S hS hz9 hk9).F rfl⟩)
      | 1, _, hk9 =>
        have kr24 : T q21 = some (17, 1) := hk9
        refine lv_astore_n (lv' := [(2, .ref q21), (0, .ref h0), (1, .int v)]) hx hb dK_seal_5 rfl hl (by decide) rfl (fun ls hl => ?_)
        refine lv_aload_n hx hb dK_seal_6 rfl (lv_at hl 0 rfl) ?_
        refine lv_ifnonnull (tgt := 20) hx hb dK_seal_7 (by decide) ?_
        refine lv_aload_n hx hb dK_seal_20 rfl (lv_at hl 1 rfl) ?_
        refine va_get (D := g.1) (ci := 0) (C := "LatticeKeys") (T := T_K) (N := 11) hx hb hts (wg_ft i_K) hown hK hP 0 rfl rfl 1 (by decide) (hts _ (wg_t kw_375)) (fun _ h9 => h9) rfl dK_seal_21 ?_
        refine lv_bipush (v := nI 32) hx hb dK_seal_24 (by decide) ?_
        refine mi_eq (tgt := 39) hx hb dK_seal_26 (by decide) (by omega) (by omega) (fun h22 => ?_) (fun h22 => ?_)
        · refine lv_aload_n hx hb dK_seal_39 rfl (lv_at hl 1 rfl) ?_
          refine va_get (D := g.1) (ci := 0) (C := "LatticeKeys") (T := T_K) (N := 11) hx hb hts (wg_ft i_K) hown hK hP 0 rfl rfl 6 (by decide) (hts _ (wg_t kw_380)) (fun _ h9 => h9) rfl dK_seal_40 ?_
          refine lv_aload_n hx hb dK_seal_43 rfl (lv_at hl 0 rfl) ?_
          refine ty_get (ci := 13) (C := "LatticeKeys$KeyPair") (TT := T_KP) (N := 3) (kd := (17, 1)) hx hb hts (wg_ft i_KP) hown hK hO kr24 (nxg clo_nil kr24 rfl) hP (fun _ h9 => h9) rfl 0 (by decide) (hts _ (wg_t kw_746)) (fun _ h9 => h9) (cd := (1, 0, 1)) rfl dK_seal_44 (fun v24 hv24 => ?_)
          obtain rfl := (show v24 = .int (nI 1) from hv24)
          refine ty_aald50 hx hb hK hO k_kks (nxg clo_nil k_kks rfl) hP (by omega) dK_seal_47 (fun r24 kr25 => ?_)
          refine lv_astore_n (lv' := [(3, .ref r24), (2, .ref q21), (0, .ref h0), (1, .int v)]) hx hb dK_seal_48 rfl hl (by decide) rfl (fun ls hl => ?_)
          refine lv_aload_n hx hb dK_seal_49 rfl (lv_at hl 2 rfl) ?_
          refine va_get (D := g.1) (ci := 0) (C := "LatticeKeys") (T := T_K) (N := 11) hx hb hts (wg_ft i_K) hown hK hP 0 rfl rfl 9 (by decide) (hts _ (wg_t kw_383)) (fun _ h9 => h9) rfl dK_seal_50 ?_
          refine lv_aload_n hx hb dK_seal_53 rfl (lv_at hl 0 rfl) ?_
          refine lv_aload_n hx hb dK_seal_54 rfl (lv_at hl 1 rfl) ?_
          refine ty_get (ci := 13) (C := "LatticeKeys$KeyPair") (TT := T_KP) (N := 3) (kd := (17, 1)) hx hb hts (wg_ft i_KP) hown hK hO kr24 (nxg clo_nil kr24 rfl) hP (fun _ h9 => h9) rfl 1 (by decide) (hts _ (wg_t kw_749)) (fun _ h9 => h9) (cd := (3, 1, 1184)) rfl dK_seal_55 (fun v25 hv25 => ?_)
          obtain ⟨r25, rfl, kr26⟩ := (show ∃ r : Nat, v25 = .ref r ∧ T r = some (1, 1184) from hv25)
          refine lv_aload_n hx hb dK_seal_58 rfl (lv_at hl 2 rfl) ?_
          refine va_get (D := g.1) (ci := 0) (C := "LatticeKeys") (T := T_K) (N := 11) hx hb hts (wg_ft i_K) hown hK hP 0 rfl rfl 0 (by decide) (hts _ (wg_t kw_374)) (fun _ h9 => h9) rfl dK_seal_59 ?_
          refine lv_aload_n hx hb dK_seal_62 rfl (lv_at hl 2 rfl) ?_
          refine va_get (D := g.1) (ci := 0) (C := "LatticeKeys") (T := T_K) (N := 11) hx hb hts (wg_ft i_K) hown hK hP 0 rfl rfl 2 (by decide) (hts _ (wg_t kw_376)) (fun _ h9 => h9) rfl dK_seal_63 ?_
          refine mp_v (cx := []) (wr := [(h0, .inr (0, [.ref kt, .int (nI tl), .ref ka, .int (nI al), .ref kp, .int (nI pn), .ref kks, .ref kds, .ref ksp, .ref kkm, .ref kda]))]) hP hD hS hA [] [0] rfl rfl rfl (by decide) (va_runV (As := [.ref r24, .ref r25, .ref kt, .ref ka]) (rest := []) F (t_KM_encapsulate_1 l g _ T [] pl hO hU clo_nil clo_nil kkm r24 r25 kt ka 16384 k_kkm kr25 kr26 k_kt k_ka (by omega) (by omega)) (cwV 4 hts (wg_app (wg_c kw_1110 (wg_c kw_1111 (wg_c kw_1112 (wg_c kw_3 wg_n)))) kw_1113) rfl rfl rfl (by decide +kernel) ⟨by decide, by decide⟩) (pp_VT (en_ok g) (ci := 5) (kd := (13, 0)) hK hO k_kkm (nxg clo_nil k_kkm rfl) (fun _ h9 => ko1 h9) hP hD hS hA hE [] rfl rfl rfl) rfl rfl hl.1 rfl (lv_room (Nat.le_of_ble_eq_true rfl)) dK_seal_66 ⟨Nat.le_of_ble_eq_true rfl, Nat.le_of_ble_eq_true rfl⟩) (fun  pl H locs hu23 hP hD hS => ?_)
          obtain ⟨hq23, hO⟩ := hu23
          have hP : va_P g.1 vcl ([(h0, .inr (0, [.ref kt, .int (nI tl), .ref ka, .int (nI al), .ref kp, .int (nI pn), .ref kks, .ref kds, .ref ksp, .ref kkm, .ref kda]))] ++ pl) _ := hP
          have hD : va_D _ ([(h0, .inr (0, [.ref kt, .int (nI tl), .ref ka, .int (nI al), .ref kp, .int (nI pn), .ref kks, .ref kds, .ref ksp, .ref kkm, .ref kda]))] ++ pl) := hD
          refine W.widen (k := 0) (n := 0) (by omega) (by omega) ?_
          refine lv_aload_n hx hb dK_seal_69 rfl (lv_at hl 2 rfl) ?_
          refine lv_iconst (v := nI 0) hx hb dK_seal_70 (by decide) ?_
          refine va_put (D := g.1) (ci := 0) (v := .int (nI 0)) (ty := .int) (C := "LatticeKeys") (T := T_K) (N := 11) hx hb hts (wg_ft i_K) ty_K k_K n_K hown hK hP hD hS 0 rfl rfl 1 (by decide) (hts _ (wg_t kw_375)) (fun _ h9 => h9) rfl (by decide +kernel) rfl rfl (Nat.le_of_ble_eq_true rfl) dK_seal_71 (fun H locs hP hD hS => ?_)
          have hP : va_P g.1 vcl ([(h0, .inr (0, [.ref kt, .int (nI 0), .ref ka, .int (nI al), .ref kp, .int (nI pn), .ref kks, .ref kds, .ref ksp, .ref kkm, .ref kda]))] ++ pl) _ := hP
          have hD : va_D _ ([(h0, .inr (0, [.ref kt, .int (nI 0), .ref ka, .int (nI al), .ref kp, .int (nI pn), .ref kks, .ref kds, .ref ksp, .ref kkm, .ref kda]))] ++ pl) := hD
          refine lv_aload_n hx hb dK_seal_74 rfl (lv_at hl 2 rfl) ?_
          refine lv_aload_n hx hb dK_seal_75 rfl (lv_at hl 0 rfl) ?_
          refine ty_get (ci := 1) (C := "LatticeKeys$KemSet") (TT := T_KS) (N := 10) (kd := (41, 0)) hx hb hts (wg_ft i_KS) hown hK hO kr25 (nxg clo_nil kr25 rfl) hP (fun _ h9 => h9) rfl 6 (by decide) (hts _ (wg_t kw_245)) (fun _ h9 => h9) (cd := (1, 0, 1088)) rfl dK_seal_76 (fun v26 hv26 => ?_)
          obtain rfl := (show v26 = .int (nI 1088) from hv26)
          refine lv_bipush (v := nI 32) hx hb dK_seal_79 (by decide) ?_
          refine mi_iadd hx hb dK_seal_81 ?_
          refine mi_as (show nI (1088 + 32) = nI 1120 from rfl) ?_
          refine va_put (D := g.1) (ci := 0) (v := .int (nI 1120)) (ty := .int) (C := "LatticeKeys") (T := T_K) (N := 11) hx hb hts (wg_ft i_K) ty_K k_K n_K hown hK hP hD hS 0 rfl rfl 3 (by decide) (hts _ (wg_t kw_377)) (fun _ h9 => h9) rfl (by decide +kernel) rfl rfl (Nat.le_of_ble_eq_true rfl) dK_seal_82 (fun H locs hP hD hS => ?_)
          have hP : va_P g.1 vcl ([(h0, .inr (0, [.ref kt, .int (nI 0), .ref ka, .int (nI 1120), .ref kp, .int (nI pn), .ref kks, .ref kds, .ref ksp, .ref kkm, .ref kda]))] ++ pl) _ := hP
          have hD : va_D _ ([(h0, .inr (0, [.ref kt, .int (nI 0), .ref ka, .int (nI 1120), .ref kp, .int (nI pn), .ref kks, .ref kds, .ref ksp, .ref kkm, .ref kda]))] ++ pl) := hD
          refine lv_aload_n hx hb dK_seal_85 rfl (lv_at hl 2 rfl) ?_
          refine va_get (D := g.1) (ci := 0) (C := "LatticeKeys") (T := T_K) (N := 11) hx hb hts (wg_ft i_K) hown hK hP 0 rfl rfl 3 (by decide) (hts _ (wg_t kw_377)) (fun _ h9 => h9) rfl dK_seal_86 ?_
          refine et_ret ?_
          exact mp_iret hx hb hr hlk hP hD hS ((T, 0, 1120, pn), pl) ⟨⟨⟨(by show 0 ≤ 16384; omega), (by show 1120 ≤ 8192; omega), (by show pn ≤ 8; omega), hXT, hU⟩, trivial⟩, hO⟩ [0] rfl rfl rfl (by omega) (by omega) dK_seal_89
        · exact et_throw (own := "LatticeKeys") (cls := "java/lang/IllegalArgumentException") (text := "the tape is not 32 bytes long") (names := ["java/lang/RuntimeException", "java/lang/Exception"]) (ik := 79) (is := 184) (ic := 83) hx hb htr ctr_IAE_0 ctr_IAE_1 ctr_IAE_2 ctr_IAE_5 hown (by decide) (by decide) (hts _ (wg_t kw_501)) (hts _ (wg_t kw_18)) (hX.2.2.2.2.2.1 12 ("LatticeKeys", 184, "the tape is not 32 bytes long") rfl) (hat_IAE hts hX.2) hS.1 (hl.1.trans hml.symm) dK_seal_29 dK_seal_32 dK_seal_33 dK_seal_35 dK_seal_38 htab (Nat.le_of_ble_eq_true rfl) (Nat.le_of_ble_eq_true rfl) (Nat.le_of_ble_eq_true rfl) (Nat.le_of_ble_eq_true rfl) hlk (Nat.le_of_ble_eq_true rfl) (Nat.le_of_ble_eq_true rfl) (List.mem_cons_of_mem _ List.mem_cons_self) hS.2.2 (thr_st hX.2) (fun t hz9 hk9 => ⟨⟨((T, tl, al, pn), pl), ⟨⟨⟨(by show tl ≤ 16384; omega), (by show al ≤ 8192; omega), (by show pn ≤ 8; omega), hXT, hU⟩, trivial⟩, hO⟩, lc_P hP hk9, hD⟩, (lc_S hS hz9 hk9).F rfl⟩)
      | 2, _, hk9 =>
        have kr27 : T q21 = some (17, 2) := hk9
        refine lv_astore_n (lv' := [(2, .ref q21), (0, .ref h0), (1, .int v)]) hx hb dK_seal_5 rfl hl (by decide) rfl (fun ls hl => ?_)
        refine lv_aload_n hx hb dK_seal_6 rfl (lv_at hl 0 rfl) ?_
        refine lv_ifnonnull (tgt := 20) hx hb dK_seal_7 (by decide) ?_
        refine lv_aload_n hx hb dK_seal_20 rfl (lv_at hl 1 rfl) ?_
        refine va_get (D := g.1) (ci := 0) (C := "LatticeKeys") (T := T_K) (N := 11) hx hb hts (wg_ft i_K) hown hK hP 0 rfl rfl 1 (by decide) (hts _ (wg_t kw_375)) (fun _ h9 => h9) rfl dK_seal_21 ?_
        refine lv_bipush (v := nI 32) hx hb dK_seal_24 (by decide) ?_
        refine mi_eq (tgt := 39) hx hb dK_seal_26 (by decide) (by omega) (by omega) (fun h23 => ?_) (fun h23 => ?_)
        · refine lv_aload_n hx hb dK_seal_39 rfl (lv_at hl 1 rfl) ?_
          refine va_get (D := g.1) (ci := 0) (C := "LatticeKeys") (T := T_K) (N := 11) hx hb hts (wg_ft i_K) hown hK hP 0 rfl rfl 6 (by decide) (hts _ (wg_t kw_380)) (fun _ h9 => h9) rfl dK_seal_40 ?_
          refine lv_aload_n hx hb dK_seal_43 rfl (lv_at hl 0 rfl) ?_
          refine ty_get (ci := 13) (C := "LatticeKeys$KeyPair") (TT := T_KP) (N := 3) (kd := (17, 2)) hx hb hts (wg_ft i_KP) hown hK hO kr27 (nxg clo_nil kr27 rfl) hP (fun _ h9 => h9) rfl 0 (by decide) (hts _ (wg_t kw_746)) (fun _ h9 => h9) (cd := (1, 0, 2)) rfl dK_seal_44 (fun v27 hv27 => ?_)
          obtain rfl := (show v27 = .int (nI 2) from hv27)
          refine ty_aald50 hx hb hK hO k_kks (nxg clo_nil k_kks rfl) hP (by omega) dK_seal_47 (fun r26 kr28 => ?_)
          refine lv_astore_n (lv' := [(3, .ref r26), (2, .ref q21), (0, .ref h0), (1, .int v)]) hx hb dK_seal_48 rfl hl (by decide) rfl (fun ls hl => ?_)
          refine lv_aload_n hx hb dK_seal_49 rfl (lv_at hl 2 rfl) ?_
          refine va_get (D := g.1) (ci := 0) (C := "LatticeKeys") (T := T_K) (N := 11) hx hb hts (wg_ft i_K) hown hK hP 0 rfl rfl 9 (by decide) (hts _ (wg_t kw_383)) (fun _ h9 => h9) rfl dK_seal_50 ?_
          refine lv_aload_n hx hb dK_seal_53 rfl (lv_at hl 0 rfl) ?_
          refine lv_aload_n hx hb dK_seal_54 rfl (lv_at hl 1 rfl) ?_
          refine ty_get (ci := 13) (C := "LatticeKeys$KeyPair") (TT := T_KP) (N := 3) (kd := (17, 2)) hx hb hts (wg_ft i_KP) hown hK hO kr27 (nxg clo_nil kr27 rfl) hP (fun _ h9 => h9) rfl 1 (by decide) (hts _ (wg_t kw_749)) (fun _ h9 => h9) (cd := (3, 1, 1568)) rfl dK_seal_55 (fun v28 hv28 => ?_)
          obtain ⟨r27, rfl, kr29⟩ := (show ∃ r : Nat, v28 = .ref r ∧ T r = some (1, 1568) from hv28)
          refine lv_aload_n hx hb dK_seal_58 rfl (lv_at hl 2 rfl) ?_
          refine va_get (D := g.1) (ci := 0) (C := "LatticeKeys") (T := T_K) (N := 11) hx hb hts (wg_ft i_K) hown hK hP 0 rfl rfl 0 (by decide) (hts _ (wg_t kw_374)) (fun _ h9 => h9) rfl dK_seal_59 ?_
          refine lv_aload_n hx hb dK_seal_62 rfl (lv_at hl 2 rfl) ?_
          refine va_get (D := g.1) (ci := 0) (C := "LatticeKeys") (T := T_K) (N := 11) hx hb hts (wg_ft i_K) hown hK hP 0 rfl rfl 2 (by decide) (hts _ (wg_t kw_376)) (fun _ h9 => h9) rfl dK_seal_63 ?_
          refine mp_v (cx := []) (wr := [(h0, .inr (0, [.ref kt, .int (nI tl), .ref ka, .int (nI al), .ref kp, .int (nI pn), .ref kks, .ref kds, .ref ksp, .ref kkm, .ref kda]))]) hP hD hS hA [] [0] rfl rfl rfl (by decide) (va_runV (As := [.ref r26, .ref r27, .ref kt, .ref ka]) (rest := []) F (t_KM_encapsulate_2 l g _ T [] pl hO hU clo_nil clo_nil kkm r26 r27 kt ka 16384 k_kkm kr28 kr29 k_kt k_ka (by omega) (by omega)) (cwV 4 hts (wg_app (wg_c kw_1110 (wg_c kw_1111 (wg_c kw_1112 (wg_c kw_3 wg_n)))) kw_1113) rfl rfl rfl (by decide +kernel) ⟨by decide, by decide⟩) (pp_VT (en_ok g) (ci := 5) (kd := (13, 0)) hK hO k_kkm (nxg clo_nil k_kkm rfl) (fun _ h9 => ko1 h9) hP hD hS hA hE [] rfl rfl rfl) rfl rfl hl.1 rfl (lv_room (Nat.le_of_ble_eq_true rfl)) dK_seal_66 ⟨Nat.le_of_ble_eq_true rfl, Nat.le_of_ble_eq_true rfl⟩) (fun  pl H locs hu24 hP hD hS => ?_)
          obtain ⟨hq24, hO⟩ := hu24
          have hP : va_P g.1 vcl ([(h0, .inr (0, [.ref kt, .int (nI tl), .ref ka, .int (nI al), .ref kp, .int (nI pn), .ref kks, .ref kds, .ref ksp, .ref kkm, .ref kda]))] ++ pl) _ := hP
          have hD : va_D _ ([(h0, .inr (0, [.ref kt, .int (nI tl), .ref ka, .int (nI al), .ref kp, .int (nI pn), .ref kks, .ref kds, .ref ksp, .ref kkm, .ref kda]))] ++ pl) := hD
          refine W.widen (k := 0) (n := 0) (by omega) (by omega) ?_
          refine lv_aload_n hx hb dK_seal_69 rfl (lv_at hl 2 rfl) ?_
          refine lv_iconst (v := nI 0) hx hb dK_seal_70 (by decide) ?_
          refine va_put (D := g.1) (ci := 0) (v := .int (nI 0)) (ty := .int) (C := "LatticeKeys") (T := T_K) (N := 11) hx hb hts (wg_ft i_K) ty_K k_K n_K hown hK hP hD hS 0 rfl rfl 1 (by decide) (hts _ (wg_t kw_375)) (fun _ h9 => h9) rfl (by decide +kernel) rfl rfl (Nat.le_of_ble_eq_true rfl) dK_seal_71 (fun H locs hP hD hS => ?_)
          have hP : va_P g.1 vcl ([(h0, .inr (0, [.ref kt, .int (nI 0), .ref ka, .int (nI al), .ref kp, .int (nI pn), .ref kks, .ref kds, .ref ksp, .ref kkm, .ref kda]))] ++ pl) _ := hP
          have hD : va_D _ ([(h0, .inr (0, [.ref kt, .int (nI 0), .ref ka, .int (nI al), .ref kp, .int (nI pn), .ref kks, .ref kds, .ref ksp, .ref kkm, .ref kda]))] ++ pl) := hD
          refine lv_aload_n hx hb dK_seal_74 rfl (lv_at hl 2 rfl) ?_
          refine lv_aload_n hx hb dK_seal_75 rfl (lv_at hl 0 rfl) ?_
          refine ty_get (ci := 1) (C := "LatticeKeys$KemSet") (TT := T_KS) (N := 10) (kd := (42, 0)) hx hb hts (wg_ft i_KS) hown hK hO kr28 (nxg clo_nil kr28 rfl) hP (fun _ h9 => h9) rfl 6 (by decide) (hts _ (wg_t kw_245)) (fun _ h9 => h9) (cd := (1, 0, 1568)) rfl dK_seal_76 (fun v29 hv29 => ?_)
          obtain rfl := (show v29 = .int (nI 1568) from hv29)
          refine lv_bipush (v := nI 32) hx hb dK_seal_79 (by decide) ?_
          refine mi_iadd hx hb dK_seal_81 ?_
          refine mi_as (show nI (1568 + 32) = nI 1600 from rfl) ?_
          refine va_put (D := g.1) (ci := 0) (v := .int (nI 1600)) (ty := .int) (C := "LatticeKeys") (T := T_K) (N := 11) hx hb hts (wg_ft i_K) ty_K k_K n_K hown hK hP hD hS 0 rfl rfl 3 (by decide) (hts _ (wg_t kw_377)) (fun _ h9 => h9) rfl (by decide +kernel) rfl rfl (Nat.le_of_ble_eq_true rfl) dK_seal_82 (fun H locs hP hD hS => ?_)
          have hP : va_P g.1 vcl ([(h0, .inr (0, [.ref kt, .int (nI 0), .ref ka, .int (nI 1600), .ref kp, .int (nI pn), .ref kks, .ref kds, .ref ksp, .ref kkm, .ref kda]))] ++ pl) _ := hP
          have hD : va_D _ ([(h0, .inr (0, [.ref kt, .int (nI 0), .ref ka, .int (nI 1600), .ref kp, .int (nI pn), .ref kks, .ref kds, .ref ksp, .ref kkm, .ref kda]))] ++ pl) := hD
          refine lv_aload_n hx hb dK_seal_85 rfl (lv_at hl 2 rfl) ?_
          refine va_get (D := g.1) (ci := 0) (C := "LatticeKeys") (T := T_K) (N := 11) hx hb hts (wg_ft i_K) hown hK hP 0 rfl rfl 3 (by decide) (hts _ (wg_t kw_377)) (fun _ h9 => h9) rfl dK_seal_86 ?_
          refine et_ret ?_
          exact mp_iret hx hb hr hlk hP hD hS ((T, 0, 1600, pn), pl) ⟨⟨⟨(by show 0 ≤ 16384; omega), (by show 1600 ≤ 8192; omega), (by show pn ≤ 8; omega), hXT, hU⟩, trivial⟩, hO⟩ [0] rfl rfl rfl (by omega) (by omega) dK_seal_89
        · exact et_throw (own := "LatticeKeys") (cls := "java/lang/IllegalArgumentException") (text := "the tape is not 32 bytes long") (names := ["java/lang/RuntimeException", "java/lang/Exception"]) (ik := 79) (is := 184) (ic := 83) hx hb htr ctr_IAE_0 ctr_IAE_1 ctr_IAE_2 ctr_IAE_5 hown (by decide) (by decide) (hts _ (wg_t kw_501)) (hts _ (wg_t kw_18)) (hX.2.2.2.2.2.1 12 ("LatticeKeys", 184, "the tape is not 32 bytes long") rfl) (hat_IAE hts hX.2) hS.1 (hl.1.trans hml.symm) dK_seal_29 dK_seal_32 dK_seal_33 dK_seal_35 dK_seal_38 htab (Nat.le_of_ble_eq_true rfl) (Nat.le_of_ble_eq_true rfl) (Nat.le_of_ble_eq_true rfl) (Nat.le_of_ble_eq_true rfl) hlk (Nat.le_of_ble_eq_true rfl) (Nat.le_of_ble_eq_true rfl) (List.mem_cons_of_mem _ List.mem_cons_self) hS.2.2 (thr_st hX.2) (fun t hz9 hk9 => ⟨⟨((T, tl, al, pn), pl), ⟨⟨⟨(by show tl ≤ 16384; omega), (by show al ≤ 8192; omega), (by show pn ≤ 8; omega), hXT, hU⟩, trivial⟩, hO⟩, lc_P hP hk9, hD⟩, (lc_S hS hz9 hk9).F rfl⟩)
      | _ + 3, h9, _ => exact absurd h9 (by omega)
    · match s9, hs9, hk9 with
      | 0, _, hk9 =>
        have kr30 : T q21 = some (16, 0) := hk9
        refine lv_astore_n (lv' := [(2, .ref q21), (0, .ref h0), (1, .int v)]) hx hb dK_seal_5 rfl hl (by decide) rfl (fun ls hl => ?_)
        refine lv_aload_n hx hb dK_seal_6 rfl (lv_at hl 0 rfl) ?_
        refine lv_ifnonnull (tgt := 20) hx hb dK_seal_7 (by decide) ?_
        refine lv_aload_n hx hb dK_seal_20 rfl (lv_at hl 1 rfl) ?_
        refine va_get (D := g.1) (ci := 0) (C := "LatticeKeys") (T := T_K) (N := 11) hx hb hts (wg_ft i_K) hown hK hP 0 rfl rfl 1 (by decide) (hts _ (wg_t kw_375)) (fun _ h9 => h9) rfl dK_seal_21 ?_
        refine lv_bipush (v := nI 32) hx hb dK_seal_24 (by decide) ?_
        refine mi_eq (tgt := 39) hx hb dK_seal_26 (by decide) (by omega) (by omega) (fun h24 => ?_) (fun h24 => ?_)
        · refine lv_aload_n hx hb dK_seal_39 rfl (lv_at hl 1 rfl) ?_
          refine va_get (D := g.1) (ci := 0) (C := "LatticeKeys") (T := T_K) (N := 11) hx hb hts (wg_ft i_K) hown hK hP 0 rfl rfl 6 (by decide) (hts _ (wg_t kw_380)) (fun _ h9 => h9) rfl dK_seal_40 ?_
          refine lv_aload_n hx hb dK_seal_43 rfl (lv_at hl 0 rfl) ?_
          refine ty_get (ci := 13) (C := "LatticeKeys$KeyPair") (TT := T_KP) (N := 3) (kd := (16, 0)) hx hb hts (wg_ft i_KP) hown hK hO kr30 (nxg clo_nil kr30 rfl) hP (fun _ h9 => h9) rfl 0 (by decide) (hts _ (wg_t kw_746)) (fun _ h9 => h9) (cd := (1, 0, 0)) rfl dK_seal_44 (fun v30 hv30 => ?_)
          obtain rfl := (show v30 = .int (nI 0) from hv30)
          refine ty_aald50 hx hb hK hO k_kks (nxg clo_nil k_kks rfl) hP (by omega) dK_seal_47 (fun r28 kr31 => ?_)
          refine lv_astore_n (lv' := [(3, .ref r28), (2, .ref q21), (0, .ref h0), (1, .int v)]) hx hb dK_seal_48 rfl hl (by decide) rfl (fun ls hl => ?_)
          refine lv_aload_n hx hb dK_seal_49 rfl (lv_at hl 2 rfl) ?_
          refine va_get (D := g.1) (ci := 0) (C := "LatticeKeys") (T := T_K) (N := 11) hx hb hts (wg_ft i_K) hown hK hP 0 rfl rfl 9 (by decide) (hts _ (wg_t kw_383)) (fun _ h9 => h9) rfl dK_seal_50 ?_
          refine lv_aload_n hx hb dK_seal_53 rfl (lv_at hl 0 rfl) ?_
          refine lv_aload_n hx hb dK_seal_54 rfl (lv_at hl 1 rfl) ?_
          refine ty_get (ci := 13) (C := "LatticeKeys$KeyPair") (TT := T_KP) (N := 3) (kd := (16, 0)) hx hb hts (wg_ft i_KP) hown hK hO kr30 (nxg clo_nil kr30 rfl) hP (fun _ h9 => h9) rfl 1 (by decide) (hts _ (wg_t kw_749)) (fun _ h9 => h9) (cd := (3, 1, 800)) rfl dK_seal_55 (fun v31 hv31 => ?_)
          obtain ⟨r29, rfl, kr32⟩ := (show ∃ r : Nat, v31 = .ref r ∧ T r = some (1, 800) from hv31)
          refine lv_aload_n hx hb dK_seal_58 rfl (lv_at hl 2 rfl) ?_
          refine va_get (D := g.1) (ci := 0) (C := "LatticeKeys") (T := T_K) (N := 11) hx hb hts (wg_ft i_K) hown hK hP 0 rfl rfl 0 (by decide) (hts _ (wg_t kw_374)) (fun _ h9 => h9) rfl dK_seal_59 ?_
          refine lv_aload_n hx hb dK_seal_62 rfl (lv_at hl 2 rfl) ?_
          refine va_get (D := g.1) (ci := 0) (C := "LatticeKeys") (T := T_K) (N := 11) hx hb hts (wg_ft i_K) hown hK hP 0 rfl rfl 2 (by decide) (hts _ (wg_t kw_376)) (fun _ h9 => h9) rfl dK_seal_63 ?_
          refine mp_v (cx := []) (wr := [(h0, .inr (0, [.ref kt, .int (nI tl), .ref ka, .int (nI al), .ref kp, .int (nI pn), .ref kks, .ref kds, .ref ksp, .ref kkm, .ref kda]))]) hP hD hS hA [] [0] rfl rfl rfl (by decide) (va_runV (As := [.ref r28, .ref r29, .ref kt, .ref ka]) (rest := []) F (t_KM_encapsulate_0 l g _ T [] pl hO hU clo_nil clo_nil kkm r28 r29 kt ka 16384 k_kkm kr31 kr32 k_kt k_ka (by omega) (by omega)) (cwV 4 hts (wg_app (wg_c kw_1110 (wg_c kw_1111 (wg_c kw_1112 (wg_c kw_3 wg_n)))) kw_1113) rfl rfl rfl (by decide +kernel) ⟨by decide, by decide⟩) (pp_VT (en_ok g) (ci := 5) (kd := (13, 0)) hK hO k_kkm (nxg clo_nil k_kkm rfl) (fun _ h9 => ko1 h9) hP hD hS hA hE [] rfl rfl rfl) rfl rfl hl.1 rfl (lv_room (Nat.le_of_ble_eq_true rfl)) dK_seal_66 ⟨Nat.le_of_ble_eq_true rfl, Nat.le_of_ble_eq_true rfl⟩) (fun  pl H locs hu25 hP hD hS => ?_)
          obtain ⟨hq25, hO⟩ := hu25
          have hP : va_P g.1 vcl ([(h0, .inr (0, [.ref kt, .int (nI tl), .ref ka, .int (nI al), .ref kp, .int (nI pn), .ref kks, .ref kds, .ref ksp, .ref kkm, .ref kda]))] ++ pl) _ := hP
          have hD : va_D _ ([(h0, .inr (0, [.ref kt, .int (nI tl), .ref ka, .int (nI al), .ref kp, .int (nI pn), .ref kks, .ref kds, .ref ksp, .ref kkm, .ref kda]))] ++ pl) := hD
          refine W.widen (k := 0) (n := 0) (by omega) (by omega) ?_
          refine lv_aload_n hx hb dK_seal_69 rfl (lv_at hl 2 rfl) ?_
          refine lv_iconst (v := nI 0) hx hb dK_seal_70 (by decide) ?_
          refine va_put (D := g.1) (ci := 0) (v := .int (nI 0)) (ty := .int) (C := "LatticeKeys") (T := T_K) (N := 11) hx hb hts (wg_ft i_K) ty_K k_K n_K hown hK hP hD hS 0 rfl rfl 1 (by decide) (hts _ (wg_t kw_375)) (fun _ h9 => h9) rfl (by decide +kernel) rfl rfl (Nat.le_of_ble_eq_true rfl) dK_seal_71 (fun H locs hP hD hS => ?_)
          have hP : va_P g.1 vcl ([(h0, .inr (0, [.ref kt, .int (nI 0), .ref ka, .int (nI al), .ref kp, .int (nI pn), .ref kks, .ref kds, .ref ksp, .ref kkm, .ref kda]))] ++ pl) _ := hP
          have hD : va_D _ ([(h0, .inr (0, [.ref kt, .int (nI 0), .ref ka, .int (nI al), .ref kp, .int (nI pn), .ref kks, .ref kds, .ref ksp, .ref kkm, .ref kda]))] ++ pl) := hD
          refine lv_aload_n hx hb dK_seal_74 rfl (lv_at hl 2 rfl) ?_
          refine lv_aload_n hx hb dK_seal_75 rfl (lv_at hl 0 rfl) ?_
          refine ty_get (ci := 1) (C := "LatticeKeys$KemSet") (TT := T_KS) (N := 10) (kd := (40, 0)) hx hb hts (wg_ft i_KS) hown hK hO kr31 (nxg clo_nil kr31 rfl) hP (fun _ h9 => h9) rfl 6 (by decide) (hts _ (wg_t kw_245)) (fun _ h9 => h9) (cd := (1, 0, 768)) rfl dK_seal_76 (fun v32 hv32 => ?_)
          obtain rfl := (show v32 = .int (nI 768) from hv32)
          refine lv_bipush (v := nI 32) hx hb dK_seal_79 (by decide) ?_
          refine mi_iadd hx hb dK_seal_81 ?_
          refine mi_as (show nI (768 + 32) = nI 800 from rfl) ?_
          refine va_put (D := g.1) (ci := 0) (v := .int (nI 800)) (ty := .int) (C := "LatticeKeys") (T := T_K) (N := 11) hx hb hts (wg_ft i_K) ty_K k_K n_K hown hK hP hD hS 0 rfl rfl 3 (by decide) (hts _ (wg_t kw_377)) (fun _ h9 => h9) rfl (by decide +kernel) rfl rfl (Nat.le_of_ble_eq_true rfl) dK_seal_82 (fun H locs hP hD hS => ?_)
          have hP : va_P g.1 vcl ([(h0, .inr (0, [.ref kt, .int (nI 0), .ref ka, .int (nI 800), .ref kp, .int (nI pn), .ref kks, .ref kds, .ref ksp, .ref kkm, .ref kda]))] ++ pl) _ := hP
          have hD : va_D _ ([(h0, .inr (0, [.ref kt, .int (nI 0), .ref ka, .int (nI 800), .ref kp, .int (nI pn), .ref kks, .ref kds, .ref ksp, .ref kkm, .ref kda]))] ++ pl) := hD
          refine lv_aload_n hx hb dK_seal_85 rfl (lv_at hl 2 rfl) ?_
          refine va_get (D := g.1) (ci := 0) (C := "LatticeKeys") (T := T_K) (N := 11) hx hb hts (wg_ft i_K) hown hK hP 0 rfl rfl 3 (by decide) (hts _ (wg_t kw_377)) (fun _ h9 => h9) rfl dK_seal_86 ?_
          refine et_ret ?_
          exact mp_iret hx hb hr hlk hP hD hS ((T, 0, 800, pn), pl) ⟨⟨⟨(by show 0 ≤ 16384; omega), (by show 800 ≤ 8192; omega), (by show pn ≤ 8; omega), hXT, hU⟩, trivial⟩, hO⟩ [0] rfl rfl rfl (by omega) (by omega) dK_seal_89
        · exact et_throw (own := "LatticeKeys") (cls := "java/lang/IllegalArgumentException") (text := "the tape is not 32 bytes long") (names := ["java/lang/RuntimeException", "java/lang/Exception"]) (ik := 79) (is := 184) (ic := 83) hx hb htr ctr_IAE_0 ctr_IAE_1 ctr_IAE_2 ctr_IAE_5 hown (by decide) (by decide) (hts _ (wg_t kw_501)) (hts _ (wg_t kw_18)) (hX.2.2.2.2.2.1 12 ("LatticeKeys", 184, "the tape is not 32 bytes long") rfl) (hat_IAE hts hX.2) hS.1 (hl.1.trans hml.symm) dK_seal_29 dK_seal_32 dK_seal_33 dK_seal_35 dK_seal_38 htab (Nat.le_of_ble_eq_true rfl) (Nat.le_of_ble_eq_true rfl) (Nat.le_of_ble_eq_true rfl) (Nat.le_of_ble_eq_true rfl) hlk (Nat.le_of_ble_eq_true rfl) (Nat.le_of_ble_eq_true rfl) (List.mem_cons_of_mem _ List.mem_cons_self) hS.2.2 (thr_st hX.2) (fun t hz9 hk9 => ⟨⟨((T, tl, al, pn), pl), ⟨⟨⟨(by show tl ≤ 16384; omega), (by show al ≤ 8192; omega), (by show pn ≤ 8; omega), hXT, hU⟩, trivial⟩, hO⟩, lc_P hP hk9, hD⟩, (lc_S hS hz9 hk9).F rfl⟩)
      | 1, _, hk9 =>
        have kr33 : T q21 = some (16, 1) := hk9
        refine lv_astore_n (lv' := [(2, .ref q21), (0, .ref h0), (1, .int v)]) hx hb dK_seal_5 rfl hl (by decide) rfl (fun ls hl => ?_)
        refine lv_aload_n hx hb dK_seal_6 rfl (lv_at hl 0 rfl) ?_
        refine lv_ifnonnull (tgt := 20) hx hb dK_seal_7 (by decide) ?_
        refine lv_aload_n hx hb dK_seal_20 rfl (lv_at hl 1 rfl) ?_
        refine va_get (D := g.1) (ci := 0) (C := "LatticeKeys") (T := T_K) (N := 11) hx hb hts (wg_ft i_K) hown hK hP 0 rfl rfl 1 (by decide) (hts _ (wg_t kw_375)) (fun _ h9 => h9) rfl dK_seal_21 ?_
        refine lv_bipush (v := nI 32) hx hb dK_seal_24 (by decide) ?_
        refine mi_eq (tgt := 39) hx hb dK_seal_26 (by decide) (by omega) (by omega) (fun h25 => ?_) (fun h25 => ?_)
        · refine lv_aload_n hx hb dK_seal_39 rfl (lv_at hl 1 rfl) ?_
          refine va_get (D := g.1) (ci := 0) (C := "LatticeKeys") (T := T_K) (N := 11) hx hb hts (wg_ft i_K) hown hK hP 0 rfl rfl 6 (by decide) (hts _ (wg_t kw_380)) (fun _ h9 => h9) rfl dK_seal_40 ?_
          refine lv_aload_n hx hb dK_seal_43 rfl (lv_at hl 0 rfl) ?_
          refine ty_get (ci := 13) (C := "LatticeKeys$KeyPair") (TT := T_KP) (N := 3) (kd := (16, 1)) hx hb hts (wg_ft i_KP) hown hK hO kr33 (nxg clo_nil kr33 rfl) hP (fun _ h9 => h9) rfl 0 (by decide) (hts _ (wg_t kw_746)) (fun _ h9 => h9) (cd := (1, 0, 1)) rfl dK_seal_44 (fun v33 hv33 => ?_)
          obtain rfl := (show v33 = .int (nI 1) from hv33)
          refine ty_aald50 hx hb hK hO k_kks (nxg clo_nil k_kks rfl) hP (by omega) dK_seal_47 (fun r30 kr34 => ?_)
          refine lv_astore_n (lv' := [(3, .ref r30), (2, .ref q21), (0, .ref h0), (1, .int v)]) hx hb dK_seal_48 rfl hl (by decide) rfl (fun ls hl => ?_)
          refine lv_aload_n hx hb dK_seal_49 rfl (lv_at hl 2 rfl) ?_
          refine va_get (D := g.1) (ci := 0) (C := "LatticeKeys") (T := T_K) (N := 11) hx hb hts (wg_ft i_K) hown hK hP 0 rfl rfl 9 (by decide) (hts _ (wg_t kw_383)) (fun _ h9 => h9) rfl dK_seal_50 ?_
          refine lv_aload_n hx hb dK_seal_53 rfl (lv_at hl 0 rfl) ?_
          refine lv_aload_n hx hb dK_seal_54 rfl (lv_at hl 1 rfl) ?_
          refine ty_get (ci := 13) (C := "LatticeKeys$KeyPair") (TT := T_KP) (N := 3) (kd := (16, 1)) hx hb hts (wg_ft i_KP) hown hK hO kr33 (nxg clo_nil kr33 rfl) hP (fun _ h9 => h9) rfl 1 (by decide) (hts _ (wg_t kw_749)) (fun _ h9 => h9) (cd := (3, 1, 1184)) rfl dK_seal_55 (fun v34 hv34 => ?_)
          obtain ⟨r31, rfl, kr35⟩ := (show ∃ r : Nat, v34 = .ref r ∧ T r = some (1, 1184) from hv34)
          refine lv_aload_n hx hb dK_seal_58 rfl (lv_at hl 2 rfl) ?_
          refine va_get (D := g.1) (ci := 0) (C := "LatticeKeys") (T := T_K) (N := 11) hx hb hts (wg_ft i_K) hown hK hP 0 rfl rfl 0 (by decide) (hts _ (wg_t kw_374)) (fun _ h9 => h9) rfl dK_seal_59 ?_
          refine lv_aload_n hx hb dK_seal_62 rfl (lv_at hl 2 rfl) ?_
          refine va_get (D := g.1) (ci := 0) (C := "LatticeKeys") (T := T_K) (N := 11) hx hb hts (wg_ft i_K) hown hK hP 0 rfl rfl 2 (by decide) (hts _ (wg_t kw_376)) (fun _ h9 => h9) rfl dK_seal_63 ?_
          refine mp_v (cx := []) (wr := [(h0, .inr (0, [.ref kt, .int (nI tl), .ref ka, .int (nI al), .ref kp, .int (nI pn), .ref kks, .ref kds, .ref ksp, .ref kkm, .ref kda]))]) hP hD hS hA [] [0] rfl rfl rfl (by decide) (va_runV (As := [.ref r30, .ref r31, .ref kt, .ref ka]) (rest := []) F (t_KM_encapsulate_1 l g _ T [] pl hO hU clo_nil clo_nil kkm r30 r31 kt ka 16384 k_kkm kr34 kr35 k_kt k_ka (by omega) (by omega)) (cwV 4 hts (wg_app (wg_c kw_1110 (wg_c kw_1111 (wg_c kw_1112 (wg_c kw_3 wg_n)))) kw_1113) rfl rfl rfl (by decide +kernel) ⟨by decide, by decide⟩) (pp_VT (en_ok g) (ci := 5) (kd := (13, 0)) hK hO k_kkm (nxg clo_nil k_kkm rfl) (fun _ h9 => ko1 h9) hP hD hS hA hE [] rfl rfl rfl) rfl rfl hl.1 rfl (lv_room (Nat.le_of_ble_eq_true rfl)) dK_seal_66 ⟨Nat.le_of_ble_eq_true rfl, Nat.le_of_ble_eq_true rfl⟩) (fun  pl H locs hu26 hP hD hS => ?_)
          obtain ⟨hq26, hO⟩ := hu26
          have hP : va_P g.1 vcl ([(h0, .inr (0, [.ref kt, .int (nI tl), .ref ka, .int (nI al), .ref kp, .int (nI pn), .ref kks, .ref kds, .ref ksp, .ref kkm, .ref kda]))] ++ pl) _ := hP
          have hD : va_D _ ([(h0, .inr (0, [.ref kt, .int (nI tl), .ref ka, .int (nI al), .ref kp, .int (nI pn), .ref kks, .ref kds, .ref ksp, .ref kkm, .ref kda]))] ++ pl) := hD
          refine W.widen (k := 0) (n := 0) (by omega) (by omega) ?_
          refine lv_aload_n hx hb dK_seal_69 rfl (lv_at hl 2 rfl) ?_
          refine lv_iconst (v := nI 0) hx hb dK_seal_70 (by decide) ?_
          refine va_put (D := g.1) (ci := 0) (v := .int (nI 0)) (ty := .int) (C := "LatticeKeys") (T := T_K) (N := 11) hx hb hts (wg_ft i_K) ty_K k_K n_K hown hK hP hD hS 0 rfl rfl 1 (by decide) (hts _ (wg_t kw_375)) (fun _ h9 => h9) rfl (by decide +kernel) rfl rfl (Nat.le_of_ble_eq_true rfl) dK_seal_71 (fun H locs hP hD hS => ?_)
          have hP : va_P g.1 vcl ([(h0, .inr (0, [.ref kt, .int (nI 0), .ref ka, .int (nI al), .ref kp, .int (nI pn), .ref kks, .ref kds, .ref ksp, .ref kkm, .ref kda]))] ++ pl) _ := hP
          have hD : va_D _ ([(h0, .inr (0, [.ref kt, .int (nI 0), .ref ka, .int (nI al), .ref kp, .int (nI pn), .ref kks, .ref kds, .ref ksp, .ref kkm, .ref kda]))] ++ pl) := hD
          refine lv_aload_n hx hb dK_seal_74 rfl (lv_at hl 2 rfl) ?_
          refine lv_aload_n hx hb dK_seal_75 rfl (lv_at hl 0 rfl) ?_
          refine ty_get (ci := 1) (C := "LatticeKeys$KemSet") (TT := T_KS) (N := 10) (kd := (41, 0)) hx hb hts (wg_ft i_KS) hown hK hO kr34 (nxg clo_nil kr34 rfl) hP (fun _ h9 => h9) rfl 6 (by decide) (hts _ (wg_t kw_245)) (fun _ h9 => h9) (cd := (1, 0, 1088)) rfl dK_seal_76 (fun v35 hv35 => ?_)
          obtain rfl := (show v35 = .int (nI 1088) from hv35)
          refine lv_bipush (v := nI 32) hx hb dK_seal_79 (by decide) ?_
          refine mi_iadd hx hb dK_seal_81 ?_
          refine mi_as (show nI (1088 + 32) = nI 1120 from rfl) ?_
          refine va_put (D := g.1) (ci := 0) (v := .int (nI 1120)) (ty := .int) (C := "LatticeKeys") (T := T_K) (N := 11) hx hb hts (wg_ft i_K) ty_K k_K n_K hown hK hP hD hS 0 rfl rfl 3 (by decide) (hts _ (wg_t kw_377)) (fun _ h9 => h9) rfl (by decide +kernel) rfl rfl (Nat.le_of_ble_eq_true rfl) dK_seal_82 (fun H locs hP hD hS => ?_)
          have hP : va_P g.1 vcl ([(h0, .inr (0, [.ref kt, .int (nI 0), .ref ka, .int (nI 1120), .ref kp, .int (nI pn), .ref kks, .ref kds, .ref ksp, .ref kkm, .ref kda]))] ++ pl) _ := hP
          have hD : va_D _ ([(h0, .inr (0, [.ref kt, .int (nI 0), .ref ka, .int (nI 1120), .ref kp, .int (nI pn), .ref kks, .ref kds, .ref ksp, .ref kkm, .ref kda]))] ++ pl) := hD
          refine lv_aload_n hx hb dK_seal_85 rfl (lv_at hl 2 rfl) ?_
          refine va_get (D := g.1) (ci := 0) (C := "LatticeKeys") (T := T_K) (N := 11) hx hb hts (wg_ft i_K) hown hK hP 0 rfl rfl 3 (by decide) (hts _ (wg_t kw_377)) (fun _ h9 => h9) rfl dK_seal_86 ?_
          refine et_ret ?_
          exact mp_iret hx hb hr hlk hP hD hS ((T, 0, 1120, pn), pl) ⟨⟨⟨(by show 0 ≤ 16384; omega), (by show 1120 ≤ 8192; omega), (by show pn ≤ 8; omega), hXT, hU⟩, trivial⟩, hO⟩ [0] rfl rfl rfl (by omega) (by omega) dK_seal_89
        · exact et_throw (own := "LatticeKeys") (cls := "java/lang/IllegalArgumentException") (text := "the tape is not 32 bytes long") (names := ["java/lang/RuntimeException", "java/lang/Exception"]) (ik := 79) (is := 184) (ic := 83) hx hb htr ctr_IAE_0 ctr_IAE_1 ctr_IAE_2 ctr_IAE_5 hown (by decide) (by decide) (hts _ (wg_t kw_501)) (hts _ (wg_t kw_18)) (hX.2.2.2.2.2.1 12 ("LatticeKeys", 184, "the tape is not 32 bytes long") rfl) (hat_IAE hts hX.2) hS.1 (hl.1.trans hml.symm) dK_seal_29 dK_seal_32 dK_seal_33 dK_seal_35 dK_seal_38 htab (Nat.le_of_ble_eq_true rfl) (Nat.le_of_ble_eq_true rfl) (Nat.le_of_ble_eq_true rfl) (Nat.le_of_ble_eq_true rfl) hlk (Nat.le_of_ble_eq_true rfl) (Nat.le_of_ble_eq_true rfl) (List.mem_cons_of_mem _ List.mem_cons_self) hS.2.2 (thr_st hX.2) (fun t hz9 hk9 => ⟨⟨((T, tl, al, pn), pl), ⟨⟨⟨(by show tl ≤ 16384; omega), (by show al ≤ 8192; omega), (by show pn ≤ 8; omega), hXT, hU⟩, trivial⟩, hO⟩, lc_P hP hk9, hD⟩, (lc_S hS hz9 hk9).F rfl⟩)
      | 2, _, hk9 =>
        have kr36 : T q21 = some (16, 2) := hk9
        refine lv_astore_n (lv' := [(2, .ref q21), (0, .ref h0), (1, .int v)]) hx hb dK_seal_5 rfl hl (by decide) rfl (fun ls hl => ?_)
        refine lv_aload_n hx hb dK_seal_6 rfl (lv_at hl 0 rfl) ?_
        refine lv_ifnonnull (tgt := 20) hx hb dK_seal_7 (by decide) ?_
        refine lv_aload_n hx hb dK_seal_20 rfl (lv_at hl 1 rfl) ?_
        refine va_get (D := g.1) (ci := 0) (C := "LatticeKeys") (T := T_K) (N := 11) hx hb hts (wg_ft i_K) hown hK hP 0 rfl rfl 1 (by decide) (hts _ (wg_t kw_375)) (fun _ h9 => h9) rfl dK_seal_21 ?_
        refine lv_bipush (v := nI 32) hx hb dK_seal_24 (by decide) ?_
        refine mi_eq (tgt := 39) hx hb dK_seal_26 (by decide) (by omega) (by omega) (fun h26 => ?_) (fun h26 => ?_)
        · refine lv_aload_n hx hb dK_seal_39 rfl (lv_at hl 1 rfl) ?_
          refine va_get (D := g.1) (ci := 0) (C := "LatticeKeys") (T := T_K) (N := 11) hx hb hts (wg_ft i_K) hown hK hP 0 rfl rfl 6 (by decide) (hts _ (wg_t kw_380)) (fun _ h9 => h9) rfl dK_seal_40 ?_
          refine lv_aload_n hx hb dK_seal_43 rfl (lv_at hl 0 rfl) ?_
          refine ty_get (ci := 13) (C := "LatticeKeys$KeyPair") (TT := T_KP) (N := 3) (kd := (16, 2)) hx hb hts (wg_ft i_KP) hown hK hO kr36 (nxg clo_nil kr36 rfl) hP (fun _ h9 => h9) rfl 0 (by decide) (hts _ (wg_t kw_746)) (fun _ h9 => h9) (cd := (1, 0, 2)) rfl dK_seal_44 (fun v36 hv36 => ?_)
          obtain rfl := (show v36 = .int (nI 2) from hv36)
          refine ty_aald50 hx hb hK hO k_kks (nxg clo_nil k_kks rfl) hP (by omega) dK_seal_47 (fun r32 kr37 => ?_)
          refine lv_astore_n (lv' := [(3, .ref r32), (2, .ref q21), (0, .ref h0), (1, .int v)]) hx hb dK_seal_48 rfl hl (by decide) rfl (fun ls hl => ?_)
          refine lv_aload_n hx hb dK_seal_49 rfl (lv_at hl 2 rfl) ?_
          refine va_get (D := g.1) (ci := 0) (C := "LatticeKeys") (T := T_K) (N := 11) hx hb hts (wg_ft i_K) hown hK hP 0 rfl rfl 9 (by decide) (hts _ (wg_t kw_383)) (fun _ h9 => h9) rfl dK_seal_50 ?_
          refine lv_aload_n hx hb dK_seal_53 rfl (lv_at hl 0 rfl) ?_
          refine lv_aload_n hx hb dK_seal_54 rfl (lv_at hl 1 rfl) ?_
          refine ty_get (ci := 13) (C := "LatticeKeys$KeyPair") (TT := T_KP) (N := 3) (kd := (16, 2)) hx hb hts (wg_ft i_KP) hown hK hO kr36 (nxg clo_nil kr36 rfl) hP (fun _ h9 => h9) rfl 1 (by decide) (hts _ (wg_t kw_749)) (fun _ h9 => h9) (cd := (3, 1, 1568)) rfl dK_seal_55 (fun v37 hv37 => ?_)
          obtain ⟨r33, rfl, kr38⟩ := (show ∃ r : Nat, v37 = .ref r ∧ T r = some (1, 1568) from hv37)
          refine lv_aload_n hx hb dK_seal_58 rfl (lv_at hl 2 rfl) ?_
          refine va_get (D := g.1) (ci := 0) (C := "LatticeKeys") (T := T_K) (N := 11) hx hb hts (wg_ft i_K) hown hK hP 0 rfl rfl 0 (by decide) (hts _ (wg_t kw_374)) (fun _ h9 => h9) rfl dK_seal_59 ?_
          refine lv_aload_n hx hb dK_seal_62 rfl (lv_at hl 2 rfl) ?_
          refine va_get (D := g.1) (ci := 0) (C := "LatticeKeys") (T := T_K) (N := 11) hx hb hts (wg_ft i_K) hown hK hP 0 rfl rfl 2 (by decide) (hts _ (wg_t kw_376)) (fun _ h9 => h9) rfl dK_seal_63 ?_
          refine mp_v (cx := []) (wr := [(h0, .inr (0, [.ref kt, .int (nI tl), .ref ka, .int (nI al), .ref kp, .int (nI pn), .ref kks, .ref kds, .ref ksp, .ref kkm, .ref kda]))]) hP hD hS hA [] [0] rfl rfl rfl (by decide) (va_runV (As := [.ref r32, .ref r33, .ref kt, .ref ka]) (rest := []) F (t_KM_encapsulate_2 l g _ T [] pl hO hU clo_nil clo_nil kkm r32 r33 kt ka 16384 k_kkm kr37 kr38 k_kt k_ka (by omega) (by omega)) (cwV 4 hts (wg_app (wg_c kw_1110 (wg_c kw_1111 (wg_c kw_1112 (wg_c kw_3 wg_n)))) kw_1113) rfl rfl rfl (by decide +kernel) ⟨by decide, by decide⟩) (pp_VT (en_ok g) (ci := 5) (kd := (13, 0)) hK hO k_kkm (nxg clo_nil k_kkm rfl) (fun _ h9 => ko1 h9) hP hD hS hA hE [] rfl rfl rfl) rfl rfl hl.1 rfl (lv_room (Nat.le_of_ble_eq_true rfl)) dK_seal_66 ⟨Nat.le_of_ble_eq_true rfl, Nat.le_of_ble_eq_true rfl⟩) (fun  pl H locs hu27 hP hD hS => ?_)
          obtain ⟨hq27, hO⟩ := hu27
          have hP : va_P g.1 vcl ([(h0, .inr (0, [.ref kt, .int (nI tl), .ref ka, .int (nI al), .ref kp, .int (nI pn), .ref kks, .ref kds, .ref ksp, .ref kkm, .ref kda]))] ++ pl) _ := hP
          have hD : va_D _ ([(h0, .inr (0, [.ref kt, .int (nI tl), .ref ka, .int (nI al), .ref kp, .int (nI pn), .ref kks, .ref kds, .ref ksp, .ref kkm, .ref kda]))] ++ pl) := hD
          refine W.widen (k := 0) (n := 0) (by omega) (by omega) ?_
          refine lv_aload_n hx hb dK_seal_69 rfl (lv_at hl 2 rfl) ?_
          refine lv_iconst (v := nI 0) hx hb dK_seal_70 (by decide) ?_
          refine va_put (D := g.1) (ci := 0) (v := .int (nI 0)) (ty := .int) (C := "LatticeKeys") (T := T_K) (N := 11) hx hb hts (wg_ft i_K) ty_K k_K n_K hown hK hP hD hS 0 rfl rfl 1 (by decide) (hts _ (wg_t kw_375)) (fun _ h9 => h9) rfl (by decide +kernel) rfl rfl (Nat.le_of_ble_eq_true rfl) dK_seal_71 (fun H locs hP hD hS => ?_)
          have hP : va_P g.1 vcl ([(h0, .inr (0, [.ref kt, .int (nI 0), .ref ka, .int (nI al), .ref kp, .int (nI pn), .ref kks, .ref kds, .ref ksp, .ref kkm, .ref kda]))] ++ pl) _ := hP
          have hD : va_D _ ([(h0, .inr (0, [.ref kt, .int (nI 0), .ref ka, .int (nI al), .ref kp, .int (nI pn), .ref kks, .ref kds, .ref ksp, .ref kkm, .ref kda]))] ++ pl) := hD
          refine lv_aload_n hx hb dK_seal_74 rfl (lv_at hl 2 rfl) ?_
          refine lv_aload_n hx hb dK_seal_75 rfl (lv_at hl 0 rfl) ?_
          refine ty_get (ci := 1) (C := "LatticeKeys$KemSet") (TT := T_KS) (N := 10) (kd := (42, 0)) hx hb hts (wg_ft i_KS) hown hK hO kr37 (nxg clo_nil kr37 rfl) hP (fun _ h9 => h9) rfl 6 (by decide) (hts _ (wg_t kw_245)) (fun _ h9 => h9) (cd := (1, 0, 1568)) rfl dK_seal_76 (fun v38 hv38 => ?_)
          obtain rfl := (show v38 = .int (nI 1568) from hv38)
          refine lv_bipush (v := nI 32) hx hb dK_seal_79 (by decide) ?_
          refine mi_iadd hx hb dK_seal_81 ?_
          refine mi_as (show nI (1568 + 32) = nI 1600 from rfl) ?_
          refine va_put (D := g.1) (ci := 0) (v := .int (nI 1600)) (ty := .int) (C := "LatticeKeys") (T := T_K) (N := 11) hx hb hts (wg_ft i_K) ty_K k_K n_K hown hK hP hD hS 0 rfl rfl 3 (by decide) (hts _ (wg_t kw_377)) (fun _ h9 => h9) rfl (by decide +kernel) rfl rfl (Nat.le_of_ble_eq_true rfl) dK_seal_82 (fun H locs hP hD hS => ?_)
          have hP : va_P g.1 vcl ([(h0, .inr (0, [.ref kt, .int (nI 0), .ref ka, .int (nI 1600), .ref kp, .int (nI pn), .ref kks, .ref kds, .ref ksp, .ref kkm, .ref kda]))] ++ pl) _ := hP
          have hD : va_D _ ([(h0, .inr (0, [.ref kt, .int (nI 0), .ref ka, .int (nI 1600), .ref kp, .int (nI pn), .ref kks, .ref kds, .ref ksp, .ref kkm, .ref kda]))] ++ pl) := hD
          refine lv_aload_n hx hb dK_seal_85 rfl (lv_at hl 2 rfl) ?_
          refine va_get (D := g.1) (ci := 0) (C := "LatticeKeys") (T := T_K) (N := 11) hx hb hts (wg_ft i_K) hown hK hP 0 rfl rfl 3 (by decide) (hts _ (wg_t kw_377)) (fun _ h9 => h9) rfl dK_seal_86 ?_
          refine et_ret ?_
          exact mp_iret hx hb hr hlk hP hD hS ((T, 0, 1600, pn), pl) ⟨⟨⟨(by show 0 ≤ 16384; omega), (by show 1600 ≤ 8192; omega), (by show pn ≤ 8; omega), hXT, hU⟩, trivial⟩, hO⟩ [0] rfl rfl rfl (by omega) (by omega) dK_seal_89
        · exact et_throw (own := "LatticeKeys") (cls := "java/lang/IllegalArgumentException") (text := "the tape is not 32 bytes long") (names := ["java/lang/RuntimeException", "java/lang/Exception"]) (ik := 79) (is := 184) (ic := 83) hx hb htr ctr_IAE_0 ctr_IAE_1 ctr_IAE_2 ctr_IAE_5 hown (by decide) (by decide) (hts _ (wg_t kw_501)) (hts _ (wg_t kw_18)) (hX.2.2.2.2.2.1 12 ("LatticeKeys", 184, "the tape is not 32 bytes long") rfl) (hat_IAE hts hX.2) hS.1 (hl.1.trans hml.symm) dK_seal_29 dK_seal_32 dK_seal_33 dK_seal_35 dK_seal_38 htab (Nat.le_of_ble_eq_true rfl) (Nat.le_of_ble_eq_true rfl) (Nat.le_of_ble_eq_true rfl) (Nat.le_of_ble_eq_true rfl) hlk (Nat.le_of_ble_eq_true rfl) (Nat.le_of_ble_eq_true rfl) (List.mem_cons_of_mem _ List.mem_cons_self) hS.2.2 (thr_st hX.2) (fun t hz9 hk9 => ⟨⟨((T, tl, al, pn), pl), ⟨⟨⟨(by show tl ≤ 16384; omega), (by show al ≤ 8192; omega), (by show pn ≤ 8; omega), hXT, hU⟩, trivial⟩, hO⟩, lc_P hP hk9, hD⟩, (lc_S hS hz9 hk9).F rfl⟩)
      | _ + 3, h9, _ => exact absurd h9 (by omega)
set_option maxHeartbeats 4000000 in
set_option maxRecDepth 100000 in
theorem e_K_open (l : Launch) (htr : l.stackTraces = false) (g : Gd) (sz : Nat) (T : Ty) (pl : va_W) (hO : okx g T [] pl) (hU : uni T) (v : Int32) (h0 kt ka kp kks kds ksp kkm kda tl al pn : Nat) (k_kt : T kt = some (1, 16384)) (k_ka : T ka = some (1, 8192)) (k_kp : T kp = some (6, 0)) (k_kks : T kks = some (50, 0)) (k_kds : T kds = some (51, 0)) (k_ksp : T ksp = some (10, 0)) (k_kkm : T kkm = some (13, 0)) (k_kda : T kda = some (15, 0)) (hb : tl ≤ 16384 ∧ al ≤ 8192 ∧ pn ≤ 8)  : etMet l y_K_open w_K_open ({ frames := 6, cells := 1, slots := 6, locals := 182 } : Room) (va_Pc [.ref h0, .int v] (pr (ex g) g.1 vcl sz ([(h0, .inr (0, [.ref kt, .int (nI tl), .ref ka, .int (nI al), .ref kp, .int (nI pn), .ref kks, .ref kds, .ref ksp, .ref kkm, .ref kda]))] ++ pl))) ["java/util/NoSuchElementException", "java/lang/IllegalArgumentException"] (va_Qi (fun (r : Int32) (u : (Ty × Nat × Nat × Nat) × va_W) => ((u.1.2.1 ≤ 16384 ∧ u.1.2.2.1 ≤ 8192 ∧ u.1.2.2.2 ≤ 8 ∧ ext T u.1.1 ∧ uni u.1.1) ∧ (True)) ∧ okx g u.1.1 [] u.2) (po g.1 vcl (va_A ([(h0, .inr (0, [.ref kt, .int (nI tl), .ref ka, .int (nI al), .ref kp, .int (nI pn), .ref kks, .ref kds, .ref ksp, .ref kkm, .ref kda]))] ++ pl) sz) (fun (u : (Ty × Nat × Nat × Nat) × va_W) => [(h0, .inr (0, [.ref kt, .int (nI (u.1.2.1)), .ref ka, .int (nI (u.1.2.2.1)), .ref kp, .int (nI (u.1.2.2.2)), .ref kks, .ref kds, .ref ksp, .ref kkm, .ref kda]))] ++ u.2)) (va_A ([(h0, .inr (0, [.ref kt, .int (nI tl), .ref ka, .int (nI al), .ref kp, .int (nI pn), .ref kks, .ref kds, .ref ksp, .ref kkm, .ref kda]))] ++ pl) sz)) (xtP (fun (u : (Ty × Nat × Nat × Nat) × va_W) => ((u.1.2.1 ≤ 16384 ∧ u.1.2.2.1 ≤ 8192 ∧ u.1.2.2.2 ≤ 8 ∧ ext T u.1.1 ∧ uni u.1.1) ∧ (True)) ∧ okx g u.1.1 [] u.2) (po g.1 vcl (va_A ([(h0, .inr (0, [.ref kt, .int (nI tl), .ref ka, .int (nI al), .ref kp, .int (nI pn), .ref kks, .ref kds, .ref ksp, .ref kkm, .ref kda]))] ++ pl) sz) (fun (u : (Ty × Nat × Nat × Nat) × va_W) => [(h0, .inr (0, [.ref kt, .int (nI (u.1.2.1)), .ref ka, .int (nI (u.1.2.2.1)), .ref kp, .int (nI (u.1.2.2.2)), .ref kks, .ref kds, .ref ksp, .ref kkm, .ref kda]))] ++ u.2)) (va_A ([(h0, .inr (0, [.ref kt, .int (nI tl), .ref ka, .int (nI al), .ref kp, .int (nI pn), .ref kks, .ref kds, .ref ksp, .ref kkm, .ref kda]))] ++ pl) sz)) 1 6 (va_A ([(h0, .inr (0, [.ref kt, .int (nI tl), .ref ka, .int (nI al), .ref kp, .int (nI pn), .ref kks, .ref kds, .ref ksp, .ref kkm, .ref kda]))] ++ pl) sz) := by
  refine et_entry (cc := c_K_open) (maxL := 4) (ret := (some .int)) (by decide) rfl (Nat.le_of_ble_eq_true rfl) ?_
  intro p e s m args below meth c ls F hr hlk htab hsz hP hD hX hA hl
  obtain ⟨hx, hb, hml, hown, hts⟩ := id F
  have hE := hX.1
  have hK := hE.1
  generalize va_A ([(h0, .inr (0, [.ref kt, .int (nI tl), .ref ka, .int (nI al), .ref kp, .int (nI pn), .ref kks, .ref kds, .ref ksp, .ref kkm, .ref kda]))] ++ pl) sz = A at hD hX hE hA ⊢
  have hXT : ext T T := ext_rf
  have hS : va_S A s.heap s.heap [] := va_S.rf
  have hl : lv_has ls 4 [(0, .ref h0), (1, .int v)] := hl
  refine lv_aload_n hx hb dK_open_0 rfl (lv_at hl 0 rfl) ?_
  refine lv_iload_n hx hb dK_open_1 rfl (lv_at hl 1 rfl) ?_
  refine mp_q (cx := [(h0, .inr (0, [.ref kt, .int (nI tl), .ref ka, .int (nI al), .ref kp, .int (nI pn), .ref kks, .ref kds, .ref ksp, .ref kkm, .ref kda]))]) (wr := []) hP hD hS hA [0] [] rfl rfl rfl (by decide) (va_runV (As := [.int v]) (rest := []) F (t_K_findKem l g _ T  pl hO hU  v h0 kt ka kp kks kds ksp kkm kda tl al pn k_kt k_ka k_kp k_kks k_kds k_ksp k_kkm k_kda (by omega)) (cwV 1 hts (wg_app (wg_c kw_1104 (wg_c kw_1106 (wg_c ks_25 (wg_c kw_1 wg_n)))) kw_1107) rfl rfl rfl (by decide +kernel) ⟨by decide, by decide⟩) (pp_V (en_ok g) (q0 := 0) hK hP hD hS hA hE [0] rfl rfl rfl rfl) rfl rfl hl.1 rfl (lv_room (Nat.le_of_ble_eq_true rfl)) dK_open_2 ⟨Nat.le_of_ble_eq_true rfl, Nat.le_of_ble_eq_true rfl⟩) (fun r21 pl H locs hu21 hP hD hS => ?_)
  obtain ⟨hq21, hO⟩ := hu21
  have hP : va_P g.1 vcl ([(h0, .inr (0, [.ref kt, .int (nI tl), .ref ka, .int (nI al), .ref kp, .int (nI pn), .ref kks, .ref kds, .ref ksp, .ref kkm, .ref kda]))] ++ pl) _ := hP
  have hD : va_D _ ([(h0, .inr (0, [.ref kt, .int (nI tl), .ref ka, .int (nI al), .ref kp, .int (nI pn), .ref kks, .ref kds, .ref ksp, .ref kkm, .ref kda]))] ++ pl) := hD
  refine W.widen (k := 0) (n := 0) (by omega) (by omega) ?_
  match r21, hq21 with
  | none, _ =>
    refine lv_astore_nN (lv' := [(2, .null), (0, .ref h0), (1, .int v)]) hx hb dK_open_5 rfl hl (by decide) rfl (fun ls hl => ?_)
    refine lv_aload_nN hx hb dK_open_6 rfl (lv_at hl 0 rfl) ?_
    refine lv_ifnullN (tgt := 17) hx hb dK_open_7 (by decide) ?_
    exact et_throw (own := "LatticeKeys") (cls := "java/util/NoSuchElementException") (text := "no such keys of ML-KEM with a secret part") (names := ["java/lang/RuntimeException", "java/lang/Exception"]) (ik := 156) (is := 192) (ic := 160) hx hb htr ctr_NSE_0 ctr_NSE_1 ctr_NSE_2 ctr_NSE_5 hown (by decide) (by decide) (hts _ (wg_t kw_1064)) (hts _ (wg_t kw_34)) (hX.2.2.2.2.2.1 13 ("LatticeKeys", 192, "no such keys of ML-KEM with a secret part") rfl) (hat_NSE hts hX.2) hS.1 (hl.1.trans hml.symm) dK_open_17 dK_open_20 dK_open_21 dK_open_23 dK_open_26 htab (Nat.le_of_ble_eq_true rfl) (Nat.le_of_ble_eq_true rfl) (Nat.le_of_ble_eq_true rfl) (Nat.le_of_ble_eq_true rfl) hlk (Nat.le_of_ble_eq_true rfl) (Nat.le_of_ble_eq_true rfl) List.mem_cons_self hS.2.2 (thr_st hX.2) (fun t hz9 hk9 => ⟨⟨((T, tl, al, pn), pl), ⟨⟨⟨(by show tl ≤ 16384; omega), (by show al ≤ 8192; omega), (by show pn ≤ 8; omega), hXT, hU⟩, trivial⟩, hO⟩, lc_P hP hk9, hD⟩, (lc_S hS hz9 hk9).F rfl⟩)
  | some q21, hq9 =>
    obtain ⟨s9, hs9, hk9⟩ := hq9 q21 rfl
    rcases hk9 with hk9 | hk9
    · match s9, hs9, hk9 with
      | 0, _, hk9 =>
        have kr21 : T q21 = some (17, 0) := hk9
        refine lv_astore_n (lv' := [(2, .ref q21), (0, .ref h0), (1, .int v)]) hx hb dK_open_5 rfl hl (by decide) rfl (fun ls hl => ?_)
        refine lv_aload_n hx hb dK_open_6 rfl (lv_at hl 0 rfl) ?_
        refine lv_ifnull hx hb dK_open_7 ?_
        refine lv_aload_n hx hb dK_open_10 rfl (lv_at hl 0 rfl) ?_
        refine ty_get (ci := 13) (C := "LatticeKeys$KeyPair") (TT := T_KP) (N := 3) (kd := (17, 0)) hx hb hts (wg_ft i_KP) hown hK hO kr21 (nxg clo_nil kr21 rfl) hP (fun _ h9 => h9) rfl 2 (by decide) (hts _ (wg_t kw_752)) (fun _ h9 => h9) (cd := (3, 1, 1632)) rfl dK_open_11 (fun v21 hv21 => ?_)
        obtain ⟨r22, rfl, kr22⟩ := (show ∃ r : Nat, v21 = .ref r ∧ T r = some (1, 1632) from hv21)
        refine lv_ifnonnull (tgt := 27) hx hb dK_open_14 (by decide) ?_
        refine lv_aload_n hx hb dK_open_27 rfl (lv_at hl 1 rfl) ?_
        refine va_get (D := g.1) (ci := 0) (C := "LatticeKeys") (T := T_K) (N := 11) hx hb hts (wg_ft i_K) hown hK hP 0 rfl rfl 6 (by decide) (hts _ (wg_t kw_380)) (fun _ h9 => h9) rfl dK_open_28 ?_
        refine lv_aload_n hx hb dK_open_31 rfl (lv_at hl 0 rfl) ?_
        refine ty_get (ci := 13) (C := "LatticeKeys$KeyPair") (TT := T_KP) (N := 3) (kd := (17, 0)) hx hb hts (wg_ft i_KP) hown hK hO kr21 (nxg clo_nil kr21 rfl) hP (fun _ h9 => h9) rfl 0 (by decide) (hts _ (wg_t kw_746)) (fun _ h9 => h9) (cd := (1, 0, 0)) rfl dK_open_32 (fun v22 hv22 => ?_)
        obtain rfl := (show v22 = .int (nI 0) from hv22)
        refine ty_aald50 hx hb hK hO k_kks (nxg clo_nil k_kks rfl) hP (by omega) dK_open_35 (fun r23 kr23 => ?_)
        refine lv_astore_n (lv' := [(3, .ref r23), (2, .ref q21), (0, .ref h0), (1, .int v)]) hx hb dK_open_36 rfl hl (by decide) rfl (fun ls hl => ?_)
        refine lv_aload_n hx hb dK_open_37 rfl (lv_at hl 2 rfl) ?_
        refine va_get (D := g.1) (ci := 0) (C := "LatticeKeys") (T := T_K) (N := 11) hx hb hts (wg_ft i_K) hown hK hP 0 rfl rfl 1 (by decide) (hts _ (wg_t kw_375)) (fun _ h9 => h9) rfl dK_open_38 ?_
        refine lv_aload_n hx hb dK_open_41 rfl (lv_at hl 0 rfl) ?_
        refine ty_get (ci := 1) (C := "LatticeKeys$KemSet") (TT := T_KS) (N := 10) (kd := (40, 0)) hx hb hts (wg_ft i_KS) hown hK hO kr23 (nxg clo_nil kr23 rfl) hP (fun _ h9 => h9) rfl 6 (by decide) (hts _ (wg_t kw_245)) (fun _ h9 => h9) (cd := (1, 0, 768)) rfl dK_open_42 (fun v23 hv23 => ?_)
        obtain rfl := (show v23 = .int (nI 768) from hv23)
        refine mi_eq (tgt := 58) hx hb dK_open_45 (by decide) (by omega) (by omega) (fun h21 => ?_) (fun h21 => ?_)
        · refine lv_aload_n hx hb dK_open_58 rfl (lv_at hl 2 rfl) ?_
          refine va_get (D := g.1) (ci := 0) (C := "LatticeKeys") (T := T_K) (N := 11) hx hb hts (wg_ft i_K) hown hK hP 0 rfl rfl 9 (by decide) (hts _ (wg_t kw_383)) (fun _ h9 => h9) rfl dK_open_59 ?_
          refine lv_aload_n hx hb dK_open_62 rfl (lv_at hl 0 rfl) ?_
          refine lv_aload_n hx hb dK_open_63 rfl (lv_at hl 1 rfl) ?_
          refine lv_aload_n hx hb dK_open_64 rfl (lv_at hl 2 rfl) ?_
          refine va_get (D := g.1) (ci := 0) (C := "LatticeKeys") (T := T_K) (N := 11) hx hb hts (wg_ft i_K) hown hK hP 0 rfl rfl 0 (by decide) (hts _ (wg_t kw_374)) (fun _ h9 => h9) rfl dK_open_65 ?_
          refine lv_aload_n hx hb dK_open_68 rfl (lv_at hl 2 rfl) ?_
          refine va_get (D := g.1) (ci := 0) (C := "LatticeKeys") (T := T_K) (N := 11) hx hb hts (wg_ft i_K) hown hK hP 0 rfl rfl 2 (by decide) (hts _ (wg_t kw_376)) (fun _ h9 => h9) rfl dK_open_69 ?_
          refine mp_v (cx := []) (wr := [(h0, .inr (0, [.ref kt, .int (nI tl), .ref ka, .int (nI al), .ref kp, .int (nI pn), .ref kks, .ref kds, .ref ksp, .ref kkm, .ref kda]))]) hP hD hS hA [] [0] rfl rfl rfl (by decide) (va_runV (As := [.ref r23, .ref q21, .ref kt, .ref ka]) (rest := []) F (t_KM_decapsulate_0 l g _ T [] pl hO hU clo_nil clo_nil kkm r23 q21 kt ka 16384 k_kkm kr23 kr21 k_kt k_ka (by omega) (by omega)) (cwV 4 hts (wg_app (wg_c kw_1146 (wg_c kw_1147 (wg_c kw_1148 (wg_c kw_3 wg_n)))) kw_1149) rfl rfl rfl (by decide +kernel) ⟨by decide, by decide⟩) (pp_VT (en_ok g) (ci := 5) (kd := (13, 0)) hK hO k_kkm (nxg clo_nil k_kkm rfl) (fun _ h9 => ko1 h9) hP hD hS hA hE [] rfl rfl rfl) rfl rfl hl.1 rfl (lv_room (Nat.le_of_ble_eq_true rfl)) dK_open_72 ⟨Nat.le_of_ble_eq_true rfl, Nat.le_of_ble_eq_true rfl⟩) (fun  pl H locs hu22 hP hD hS => ?_)
          obtain ⟨hq22, hO⟩ := hu22
          have hP : va_P g.1 vcl ([(h0, .inr (0, [.ref kt, .int (nI tl), .ref ka, .int (nI al), .ref kp, .int (nI pn), .ref kks, .ref kds, .ref ksp, .ref kkm, .ref kda]))] ++ pl) _ := hP
          have hD : va_D _ ([(h0, .inr (0, [.ref kt, .int (nI tl), .ref ka, .int (nI al), .ref kp, .int (nI pn), .ref kks, .ref kds, .ref ksp, .ref kkm, .ref kda]))] ++ pl) := hD
          refine W.widen (k := 0) (n := 0) (by omega) (by omega) ?_
          refine lv_aload_n hx hb dK_open_75 rfl (lv_at hl 2 rfl) ?_
          refine lv_iconst (v := nI 0) hx hb dK_open_76 (by decide) ?_
          refine va_put (D := g.1) (ci := 0) (v := .int (nI 0)) (ty := .int) (C := "LatticeKeys") (T := T_K) (N := 11) hx hb hts (wg_ft i_K) ty_K k_K n_K hown hK hP hD hS 0 rfl rfl 1 (by decide) (hts _ (wg_t kw_375)) (fun _ h9 => h9) rfl (by decide +kernel) rfl rfl (Nat.le_of_ble_eq_true rfl) dK_open_77 (fun H locs hP hD hS => ?_)
          have hP : va_P g.1 vcl ([(h0, .inr (0, [.ref kt, .int (nI 0), .ref ka, .int (nI al), .ref kp, .int (nI pn), .ref kks, .ref kds, .ref ksp, .ref kkm, .ref kda]))] ++ pl) _ := hP
          have hD : va_D _ ([(h0, .inr (0, [.ref kt, .int (nI 0), .ref ka, .int (nI al), .ref kp, .int (nI pn), .ref kks, .ref kds, .ref ksp, .ref kkm, .ref kda]))] ++ pl) := hD
          refine lv_aload_n hx hb dK_open_80 rfl (lv_at hl 2 rfl) ?_
          refine lv_bipush (v := nI 32) hx hb dK_open_81 (by decide) ?_
          refine va_put (D := g.1) (ci := 0) (v := .int (nI 32)) (ty := .int) (C := "LatticeKeys") (T := T_K) (N := 11) hx hb hts (wg_ft i_K) ty_K k_K n_K hown hK hP hD hS 0 rfl rfl 3 (by decide) (hts _ (wg_t kw_377)) (fun _ h9 => h9) rfl (by decide +kernel) rfl rfl (Nat.le_of_ble_eq_true rfl) dK_open_83 (fun H locs hP hD hS => ?_)
          have hP : va_P g.1 vcl ([(h0, .inr (0, [.ref kt, .int (nI 0), .ref ka, .int (nI 32), .ref kp, .int (nI pn), .ref kks, .ref kds, .ref ksp, .ref kkm, .ref kda]))] ++ pl) _ := hP
          have hD : va_D _ ([(h0, .inr (0, [.ref kt, .int (nI 0), .ref ka, .int (nI 32), .ref kp, .int (nI pn), .ref kks, .ref kds, .ref ksp, .ref kkm, .ref kda]))] ++ pl) := hD
          refine lv_aload_n hx hb dK_open_86 rfl (lv_at hl 2 rfl) ?_
          refine va_get (D := g.1) (ci := 0) (C := "LatticeKeys") (T := T_K) (N := 11) hx hb hts (wg_ft i_K) hown hK hP 0 rfl rfl 3 (by decide) (hts _ (wg_t kw_377)) (fun _ h9 => h9) rfl dK_open_87 ?_
          refine et_ret ?_
          exact mp_iret hx hb hr hlk hP hD hS ((T, 0, 32, pn), pl) ⟨⟨⟨(by show 0 ≤ 16384; omega), (by show 32 ≤ 8192; omega), (by show pn ≤ 8; omega), hXT, hU⟩, trivial⟩, hO⟩ [0] rfl rfl rfl (by omega) (by omega) dK_open_90
        · exact et_throw (own := "LatticeKeys") (cls := "java/lang/IllegalArgumentException") (text := "the tape is not as long as a ciphertext") (names := ["java/lang/RuntimeException", "java/lang/Exception"]) (ik := 79) (is := 194) (ic := 83) hx hb htr ctr_IAE_0 ctr_IAE_1 ctr_IAE_2 ctr_IAE_5 hown (by decide) (by decide) (hts _ (wg_t kw_501)) (hts _ (wg_t kw_18)) (hX.2.2.2.2.2.1 14 ("LatticeKeys", 194, "the tape is not as long as a ciphertext") rfl) (hat_IAE hts hX.2) hS.1 (hl.1.trans hml.symm) dK_open_48 dK_open_51 dK_open_52 dK_open_54 dK_open_57 htab (Nat.le_of_ble_eq_true rfl) (Nat.le_of_ble_eq_true rfl) (Nat.le_of_ble_eq_true rfl) (Nat.le_of_ble_eq_true rfl) hlk (Nat.le_of_ble_eq_true rfl) (Nat.le_of_ble_eq_true rfl) (List.mem_cons_of_mem _ List.mem_cons_self) hS.2.2 (thr_st hX.2) (fun t hz9 hk9 => ⟨⟨((T, tl, al, pn), pl), ⟨⟨⟨(by show tl ≤ 16384; omega), (by show al ≤ 8192; omega), (by show pn ≤ 8; omega), hXT, hU⟩, trivial⟩, hO⟩, lc_P hP hk9, hD⟩, (lc_S hS hz9 hk9).F rfl⟩)
      | 1, _, hk9 =>
        have kr24 : T q21 = some (17, 1) := hk9
        refine lv_astore_n (lv' := [(2, .ref q21), (0, .ref h0), (1, .int v)]) hx hb dK_open_5 rfl hl (by decide) rfl (fun ls hl => ?_)
        refine lv_aload_n hx hb dK_open_6 rfl (lv_at hl 0 rfl) ?_
        refine lv_ifnull hx hb dK_open_7 ?_
        refine lv_aload_n hx hb dK_open_10 rfl (lv_at hl 0 rfl) ?_
        refine ty_get (ci := 13) (C := "LatticeKeys$KeyPair") (TT := T_KP) (N := 3) (kd := (17, 1)) hx hb hts (wg_ft i_KP) hown hK hO kr24 (nxg clo_nil kr24 rfl) hP (fun _ h9 => h9) rfl 2 (by decide) (hts _ (wg_t kw_752)) (fun _ h9 => h9) (cd := (3, 1, 2400)) rfl dK_open_11 (fun v24 hv24 => ?_)
        obtain ⟨r24, rfl, kr25⟩ := (show ∃ r : Nat, v24 = .ref r ∧ T r = some (1, 2400) from hv24)
        refine lv_ifnonnull (tgt := 27) hx hb dK_open_14 (by decide) ?_
        refine lv_aload_n hx hb dK_open_27 rfl (lv_at hl 1 rfl) ?_
        refine va_get (D := g.1) (ci := 0) (C := "LatticeKeys") (T := T_K) (N := 11) hx hb hts (wg_ft i_K) hown hK hP 0 rfl rfl 6 (by decide) (hts _ (wg_t kw_380)) (fun _ h9 => h9) rfl dK_open_28 ?_
        refine lv_aload_n hx hb dK_open_31 rfl (lv_at hl 0 rfl) ?_
        refine ty_get (ci := 13) (C := "LatticeKeys$KeyPair") (TT := T_KP) (N := 3) (kd := (17, 1)) hx hb hts (wg_ft i_KP) hown hK hO kr24 (nxg clo_nil kr24 rfl) hP (fun _ h9 => h9) rfl 0 (by decide) (hts _ (wg_t kw_746)) (fun _ h9 => h9) (cd := (1, 0, 1)) rfl dK_open_32 (fun v25 hv25 => ?_)
        obtain rfl := (show v25 = .int (nI 1) from hv25)
        refine ty_aald50 hx hb hK hO k_kks (nxg clo_nil k_kks rfl) hP (by omega) dK_open_35 (fun r25 kr26 => ?_)
        refine lv_astore_n (lv' := [(3, .ref r25), (2, .ref q21), (0, .ref h0), (1, .int v)]) hx hb dK_open_36 rfl hl (by decide) rfl (fun ls hl => ?_)
        refine lv_aload_n hx hb dK_open_37 rfl (lv_at hl 2 rfl) ?_
        refine va_get (D := g.1) (ci := 0) (C := "LatticeKeys") (T := T_K) (N := 11) hx hb hts (wg_ft i_K) hown hK hP 0 rfl rfl 1 (by decide) (hts _ (wg_t kw_375)) (fun _ h9 => h9) rfl dK_open_38 ?_
        refine lv_aload_n hx hb dK_open_41 rfl (lv_at hl 0 rfl) ?_
        refine ty_get (ci := 1) (C := "LatticeKeys$KemSet") (TT := T_KS) (N := 10) (kd := (41, 0)) hx hb hts (wg_ft i_KS) hown hK hO kr26 (nxg clo_nil kr26 rfl) hP (fun _ h9 => h9) rfl 6 (by decide) (hts _ (wg_t kw_245)) (fun _ h9 => h9) (cd := (1, 0, 1088)) rfl dK_open_42 (fun v26 hv26 => ?_)
        obtain rfl := (show v26 = .int (nI 1088) from hv26)
        refine mi_eq (tgt := 58) hx hb dK_open_45 (by decide) (by omega) (by omega) (fun h22 => ?_) (fun h22 => ?_)
        · refine lv_aload_n hx hb dK_open_58 rfl (lv_at hl 2 rfl) ?_
          refine va_get (D := g.1) (ci := 0) (C := "LatticeKeys") (T := T_K) (N := 11) hx hb hts (wg_ft i_K) hown hK hP 0 rfl rfl 9 (by decide) (hts _ (wg_t kw_383)) (fun _ h9 => h9) rfl dK_open_59 ?_
          refine lv_aload_n hx hb dK_open_62 rfl (lv_at hl 0 rfl) ?_
          refine lv_aload_n hx hb dK_open_63 rfl (lv_at hl 1 rfl) ?_
          refine lv_aload_n hx hb dK_open_64 rfl (lv_at hl 2 rfl) ?_
          refine va_get (D := g.1) (ci := 0) (C := "LatticeKeys") (T := T_K) (N := 11) hx hb hts (wg_ft i_K) hown hK hP 0 rfl rfl 0 (by decide) (hts _ (wg_t kw_374)) (fun _ h9 => h9) rfl dK_open_65 ?_
          refine lv_aload_n hx hb dK_open_68 rfl (lv_at hl 2 rfl) ?_
          refine va_get (D := g.1) (ci := 0) (C := "LatticeKeys") (T := T_K) (N := 11) hx hb hts (wg_ft i_K) hown hK hP 0 rfl rfl 2 (by decide) (hts _ (wg_t kw_376)) (fun _ h9 => h9) rfl dK_open_69 ?_
          refine mp_v (cx := []) (wr := [(h0, .inr (0, [.ref kt, .int (nI tl), .ref ka, .int (nI al), .ref kp, .int (nI pn), .ref kks, .ref kds, .ref ksp, .ref kkm, .ref kda]))]) hP hD hS hA [] [0] rfl rfl rfl (by decide) (va_runV (As := [.ref r25, .ref q21, .ref kt, .ref ka]) (rest := []) F (t_KM_decapsulate_1 l g _ T [] pl hO hU clo_nil clo_nil kkm r25 q21 kt ka 16384 k_kkm kr26 kr24 k_kt k_ka (by omega) (by omega)) (cwV 4 hts (wg_app (wg_c kw_1146 (wg_c kw_1147 (wg_c kw_1148 (wg_c kw_3 wg_n)))) kw_1149) rfl rfl rfl (by decide +kernel) ⟨by decide, by decide⟩) (pp_VT (en_ok g) (ci := 5) (kd := (13, 0)) hK hO k_kkm (nxg clo_nil k_kkm rfl) (fun _ h9 => ko1 h9) hP hD hS hA hE [] rfl rfl rfl) rfl rfl hl.1 rfl (lv_room (Nat.le_of_ble_eq_true rfl)) dK_open_72 ⟨Nat.le_of_ble_eq_true rfl, Nat.le_of_ble_eq_true rfl⟩) (fun  pl H locs hu23 hP hD hS => ?_)
          obtain ⟨hq23, hO⟩ := hu23
          have hP : va_P g.1 vcl ([(h0, .inr (0, [.ref kt, .int (nI tl), .ref ka, .int (nI al), .ref kp, .int (nI pn), .ref kks, .ref kds, .ref ksp, .ref kkm, .ref kda]))] ++ pl) _ := hP
          have hD : va_D _ ([(h0, .inr (0, [.ref kt, .int (nI tl), .ref ka, .int (nI al), .ref kp, .int (nI pn), .ref kks, .ref kds, .ref ksp, .ref kkm, .ref kda]))] ++ pl) := hD
          refine W.widen (k := 0) (n := 0) (by omega) (by omega) ?_
          refine lv_aload_n hx hb dK_open_75 rfl (lv_at hl 2 rfl) ?_
          refine lv_iconst (v := nI 0) hx hb dK_open_76 (by decide) ?_
          refine va_put (D := g.1) (ci := 0) (v := .int (nI 0)) (ty := .int) (C := "LatticeKeys") (T := T_K) (N := 11) hx hb hts (wg_ft i_K) ty_K k_K n_K hown hK hP hD hS 0 rfl rfl 1 (by decide) (hts _ (wg_t kw_375)) (fun _ h9 => h9) rfl (by decide +kernel) rfl rfl (Nat.le_of_ble_eq_true rfl) dK_open_77 (fun H locs hP hD hS => ?_)
          have hP : va_P g.1 vcl ([(h0, .inr (0, [.ref kt, .int (nI 0), .ref ka, .int (nI al), .ref kp, .int (nI pn), .ref kks, .ref kds, .ref ksp, .ref kkm, .ref kda]))] ++ pl) _ := hP
          have hD : va_D _ ([(h0, .inr (0, [.ref kt, .int (nI 0), .ref ka, .int (nI al), .ref kp, .int (nI pn), .ref kks, .ref kds, .ref ksp, .ref kkm, .ref kda]))] ++ pl) := hD
          refine lv_aload_n hx hb dK_open_80 rfl (lv_at hl 2 rfl) ?_
          refine lv_bipush (v := nI 32) hx hb dK_open_81 (by decide) ?_
          refine va_put (D := g.1) (ci := 0) (v := .int (nI 32)) (ty := .int) (C := "LatticeKeys") (T := T_K) (N := 11) hx hb hts (wg_ft i_K) ty_K k_K n_K hown hK hP hD hS 0 rfl rfl 3 (by decide) (hts _ (wg_t kw_377)) (fun _ h9 => h9) rfl (by decide +kernel) rfl rfl (Nat.le_of_ble_eq_true rfl) dK_open_83 (fun H locs hP hD hS => ?_)
          have hP : va_P g.1 vcl ([(h0, .inr (0, [.ref kt, .int (nI 0), .ref ka, .int (nI 32), .ref kp, .int (nI pn), .ref kks, .ref kds, .ref ksp, .ref kkm, .ref kda]))] ++ pl) _ := hP
          have hD : va_D _ ([(h0, .inr (0, [.ref kt, .int (nI 0), .ref ka, .int (nI 32), .ref kp, .int (nI pn), .ref kks, .ref kds, .ref ksp, .ref kkm, .ref kda]))] ++ pl) := hD
          refine lv_aload_n hx hb dK_open_86 rfl (lv_at hl 2 rfl) ?_
          refine va_get (D := g.1) (ci := 0) (C := "LatticeKeys") (T := T_K) (N := 11) hx hb hts (wg_ft i_K) hown hK hP 0 rfl rfl 3 (by decide) (hts _ (wg_t kw_377)) (fun _ h9 => h9) rfl dK_open_87 ?_
          refine et_ret ?_
          exact mp_iret hx hb hr hlk hP hD hS ((T, 0, 32, pn), pl) ⟨⟨⟨(by show 0 ≤ 16384; omega), (by show 32 ≤ 8192; omega), (by show pn ≤ 8; omega), hXT, hU⟩, trivial⟩, hO⟩ [0] rfl rfl rfl (by omega) (by omega) dK_open_90
        · exact et_throw (own := "LatticeKeys") (cls := "java/lang/IllegalArgumentException") (text := "the tape is not as long as a ciphertext") (names := ["java/lang/RuntimeException", "java/lang/Exception"]) (ik := 79) (is := 194) (ic := 83) hx hb htr ctr_IAE_0 ctr_IAE_1 ctr_IAE_2 ctr_IAE_5 hown (by decide) (by decide) (hts _ (wg_t kw_501)) (hts _ (wg_t kw_18)) (hX.2.2.2.2.2.1 14 ("LatticeKeys", 194, "the tape is not as long as a ciphertext") rfl) (hat_IAE hts hX.2) hS.1 (hl.1.trans hml.symm) dK_open_48 dK_open_51 dK_open_52 dK_open_54 dK_open_57 htab (Nat.le_of_ble_eq_true rfl) (Nat.le_of_ble_eq_true rfl) (Nat.le_of_ble_eq_true rfl) (Nat.le_of_ble_eq_true rfl) hlk (Nat.le_of_ble_eq_true rfl) (Nat.le_of_ble_eq_true rfl) (List.mem_cons_of_mem _ List.mem_cons_self) hS.2.2 (thr_st hX.2) (fun t hz9 hk9 => ⟨⟨((T, tl, al, pn), pl), ⟨⟨⟨(by show tl ≤ 16384; omega), (by show al ≤ 8192; omega), (by show pn ≤ 8; omega), hXT, hU⟩, trivial⟩, hO⟩, lc_P hP hk9, hD⟩, (lc_S hS hz9 hk9).F rfl⟩)
      | 2, _, hk9 =>
        have kr27 : T q21 = some (17, 2) := hk9
        refine lv_astore_n (lv' := [(2, .ref q21), (0, .ref h0), (1, .int v)]) hx hb dK_open_5 rfl hl (by decide) rfl (fun ls hl => ?_)
        refine lv_aload_n hx hb dK_open_6 rfl (lv_at hl 0 rfl) ?_
        refine lv_ifnull hx hb dK_open_7 ?_
        refine lv_aload_n hx hb dK_open_10 rfl (lv_at hl 0 rfl) ?_
        refine ty_get (ci := 13) (C := "LatticeKeys$KeyPair") (TT := T_KP) (N := 3) (kd := (17, 2)) hx hb hts (wg_ft i_KP) hown hK hO kr27 (nxg clo_nil kr27 rfl) hP (fun _ h9 => h9) rfl 2 (by decide) (hts _ (wg_t kw_752)) (fun _ h9 => h9) (cd := (3, 1, 3168)) rfl dK_open_11 (fun v27 hv27 => ?_)
        obtain ⟨r26, rfl, kr28⟩ := (show ∃ r : Nat, v27 = .ref r ∧ T r = some (1, 3168) from hv27)
        refine lv_ifnonnull (tgt := 27) hx hb dK_open_14 (by decide) ?_
        refine lv_aload_n hx hb dK_open_27 rfl (lv_at hl 1 rfl) ?_
        refine va_get (D := g.1) (ci := 0) (C := "LatticeKeys") (T := T_K) (N := 11) hx hb hts (wg_ft i_K) hown hK hP 0 rfl rfl 6 (by decide) (hts _ (wg_t kw_380)) (fun _ h9 => h9) rfl dK_open_28 ?_
        refine lv_aload_n hx hb dK_open_31 rfl (lv_at hl 0 rfl) ?_
        refine ty_get (ci := 13) (C := "LatticeKeys$KeyPair") (TT := T_KP) (N := 3) (kd := (17, 2)) hx hb hts (wg_ft i_KP) hown hK hO kr27 (nxg clo_nil kr27 rfl) hP (fun _ h9 => h9) rfl 0 (by decide) (hts _ (wg_t kw_746)) (fun _ h9 => h9) (cd := (1, 0, 2)) rfl dK_open_32 (fun v28 hv28 => ?_)
        obtain rfl := (show v28 = .int (nI 2) from hv28)
        refine ty_aald50 hx hb hK hO k_kks (nxg clo_nil k_kks rfl) hP (by omega) dK_open_35 (fun r27 kr29 => ?_)
        refine lv_astore_n (lv' := [(3, .ref r27), (2, .ref q21), (0, .ref h0), (1, .int v)]) hx hb dK_open_36 rfl hl (by decide) rfl (fun ls hl => ?_)
        refine lv_aload_n hx hb dK_open_37 rfl (lv_at hl 2 rfl) ?_
        refine va_get (D := g.1) (ci := 0) (C := "LatticeKeys") (T := T_K) (N := 11) hx hb hts (wg_ft i_K) hown hK hP 0 rfl rfl 1 (by decide) (hts _ (wg_t kw_375)) (fun _ h9 => h9) rfl dK_open_38 ?_
        refine lv_aload_n hx hb dK_open_41 rfl (lv_at hl 0 rfl) ?_
        refine ty_get (ci := 1) (C := "LatticeKeys$KemSet") (TT := T_KS) (N := 10) (kd := (42, 0)) hx hb hts (wg_ft i_KS) hown hK hO kr29 (nxg clo_nil kr29 rfl) hP (fun _ h9 => h9) rfl 6 (by decide) (hts _ (wg_t kw_245)) (fun _ h9 => h9) (cd := (1, 0, 1568)) rfl dK_open_42 (fun v29 hv29 => ?_)
        obtain rfl := (show v29 = .int (nI 1568) from hv29)
        refine mi_eq (tgt := 58) hx hb dK_open_45 (by decide) (by omega) (by omega) (fun h23 => ?_) (fun h23 => ?_)
        · refine lv_aload_n hx hb dK_open_58 rfl (lv_at hl 2 rfl) ?_
          refine va_get (D := g.1) (ci := 0) (C := "LatticeKeys") (T := T_K) (N := 11) hx hb hts (wg_ft i_K) hown hK hP 0 rfl rfl 9 (by decide) (hts _ (wg_t kw_383)) (fun _ h9 => h9) rfl dK_open_59 ?_
          refine lv_aload_n hx hb dK_open_62 rfl (lv_at hl 0 rfl) ?_
          refine lv_aload_n hx hb dK_open_63 rfl (lv_at hl 1 rfl) ?_
          refine lv_aload_n hx hb dK_open_64 rfl (lv_at hl 2 rfl) ?_
          refine va_get (D := g.1) (ci := 0) (C := "LatticeKeys") (T := T_K) (N := 11) hx hb hts (wg_ft i_K) hown hK hP 0 rfl rfl 0 (by decide) (hts _ (wg_t kw_374)) (fun _ h9 => h9) rfl dK_open_65 ?_
          refine lv_aload_n hx hb dK_open_68 rfl (lv_at hl 2 rfl) ?_
          refine va_get (D := g.1) (ci := 0) (C := "LatticeKeys") (T := T_K) (N := 11) hx hb hts (wg_ft i_K) hown hK hP 0 rfl rfl 2 (by decide) (hts _ (wg_t kw_376)) (fun _ h9 => h9) rfl dK_open_69 ?_
          refine mp_v (cx := []) (wr := [(h0, .inr (0, [.ref kt, .int (nI tl), .ref ka, .int (nI al), .ref kp, .int (nI pn), .ref kks, .ref kds, .ref ksp, .ref kkm, .ref kda]))]) hP hD hS hA [] [0] rfl rfl rfl (by decide) (va_runV (As := [.ref r27, .ref q21, .ref kt, .ref ka]) (rest := []) F (t_KM_decapsulate_2 l g _ T [] pl hO hU clo_nil clo_nil kkm r27 q21 kt ka 16384 k_kkm kr29 kr27 k_kt k_ka (by omega) (by omega)) (cwV 4 hts (wg_app (wg_c kw_1146 (wg_c kw_1147 (wg_c kw_1148 (wg_c kw_3 wg_n)))) kw_1149) rfl rfl rfl (by decide +kernel) ⟨by decide, by decide⟩) (pp_VT (en_ok g) (ci := 5) (kd := (13, 0)) hK hO k_kkm (nxg clo_nil k_kkm rfl) (fun _ h9 => ko1 h9) hP hD hS hA hE [] rfl rfl rfl) rfl rfl hl.1 rfl (lv_room (Nat.le_of_ble_eq_true rfl)) dK_open_72 ⟨Nat.le_of_ble_eq_true rfl, Nat.le_of_ble_eq_true rfl⟩) (fun  pl H locs hu24 hP hD hS => ?_)
          obtain ⟨hq24, hO⟩ := hu24
          have hP : va_P g.1 vcl ([(h0, .inr (0, [.ref kt, .int (nI tl), .ref ka, .int (nI al), .ref kp, .int (nI pn), .ref kks, .ref kds, .ref ksp, .ref kkm, .ref kda]))] ++ pl) _ := hP
          have hD : va_D _ ([(h0, .inr (0, [.ref kt, .int (nI tl), .ref ka, .int (nI al), .ref kp, .int (nI pn), .ref kks, .ref kds, .ref ksp, .ref kkm, .ref kda]))] ++ pl) := hD
          refine W.widen (k := 0) (n := 0) (by omega) (by omega) ?_
          refine lv_aload_n hx hb dK_open_75 rfl (lv_at hl 2 rfl) ?_
          refine lv_iconst (v := nI 0) hx hb dK_open_76 (by decide) ?_
          refine va_put (D := g.1) (ci := 0) (v := .int (nI 0)) (ty := .int) (C := "LatticeKeys") (T := T_K) (N := 11) hx hb hts (wg_ft i_K) ty_K k_K n_K hown hK hP hD hS 0 rfl rfl 1 (by decide) (hts _ (wg_t kw_375)) (fun _ h9 => h9) rfl (by decide +kernel) rfl rfl (Nat.le_of_ble_eq_true rfl) dK_open_77 (fun H locs hP hD hS => ?_)
          have hP : va_P g.1 vcl ([(h0, .inr (0, [.ref kt, .int (nI 0), .ref ka, .int (nI al), .ref kp, .int (nI pn), .ref kks, .ref kds, .ref ksp, .ref kkm, .ref kda]))] ++ pl) _ := hP
          have hD : va_D _ ([(h0, .inr (0, [.ref kt, .int (nI 0), .ref ka, .int (nI al), .ref kp, .int (nI pn), .ref kks, .ref kds, .ref ksp, .ref kkm, .ref kda]))] ++ pl) := hD
          refine lv_aload_n hx hb dK_open_80 rfl (lv_at hl 2 rfl) ?_
          refine lv_bipush (v := nI 32) hx hb dK_open_81 (by decide) ?_
          refine va_put (D := g.1) (ci := 0) (v := .int (nI 32)) (ty := .int) (C := "LatticeKeys") (T := T_K) (N := 11) hx hb hts (wg_ft i_K) ty_K k_K n_K hown hK hP hD hS 0 rfl rfl 3 (by decide) (hts _ (wg_t kw_377)) (fun _ h9 => h9) rfl (by decide +kernel) rfl rfl (Nat.le_of_ble_eq_true rfl) dK_open_83 (fun H locs hP hD hS => ?_)
          have hP : va_P g.1 vcl ([(h0, .inr (0, [.ref kt, .int (nI 0), .ref ka, .int (nI 32), .ref kp, .int (nI pn), .ref kks, .ref kds, .ref ksp, .ref kkm, .ref kda]))] ++ pl) _ := hP
          have hD : va_D _ ([(h0, .inr (0, [.ref kt, .int (nI 0), .ref ka, .int (nI 32), .ref kp, .int (nI pn), .ref kks, .ref kds, .ref ksp, .ref kkm, .ref kda]))] ++ pl) := hD
          refine lv_aload_n hx hb dK_open_86 rfl (lv_at hl 2 rfl) ?_
          refine va_get (D := g.1) (ci := 0) (C := "LatticeKeys") (T := T_K) (N := 11) hx hb hts (wg_ft i_K) hown hK hP 0 rfl rfl 3 (by decide) (hts _ (wg_t kw_377)) (fun _ h9 => h9) rfl dK_open_87 ?_
          refine et_ret ?_
          exact mp_iret hx hb hr hlk hP hD hS ((T, 0, 32, pn), pl) ⟨⟨⟨(by show 0 ≤ 16384; omega), (by show 32 ≤ 8192; omega), (by show pn ≤ 8; omega), hXT, hU⟩, trivial⟩, hO⟩ [0] rfl rfl rfl (by omega) (by omega) dK_open_90
        · exact et_throw (own := "LatticeKeys") (cls := "java/lang/IllegalArgumentException") (text := "the tape is not as long as a ciphertext") (names := ["java/lang/RuntimeException", "java/lang/Exception"]) (ik := 79) (is := 194) (ic := 83) hx hb htr ctr_IAE_0 ctr_IAE_1 ctr_IAE_2 ctr_IAE_5 hown (by decide) (by decide) (hts _ (wg_t kw_501)) (hts _ (wg_t kw_18)) (hX.2.2.2.2.2.1 14 ("LatticeKeys", 194, "the tape is not as long as a ciphertext") rfl) (hat_IAE hts hX.2) hS.1 (hl.1.trans hml.symm) dK_open_48 dK_open_51 dK_open_52 dK_open_54 dK_open_57 htab (Nat.le_of_ble_eq_true rfl) (Nat.le_of_ble_eq_true rfl) (Nat.le_of_ble_eq_true rfl) (Nat.le_of_ble_eq_true rfl) hlk (Nat.le_of_ble_eq_true rfl) (Nat.le_of_ble_eq_true rfl) (List.mem_cons_of_mem _ List.mem_cons_self) hS.2.2 (thr_st hX.2) (fun t hz9 hk9 => ⟨⟨((T, tl, al, pn), pl), ⟨⟨⟨(by show tl ≤ 16384; omega), (by show al ≤ 8192; omega), (by show pn ≤ 8; omega), hXT, hU⟩, trivial⟩, hO⟩, lc_P hP hk9, hD⟩, (lc_S hS hz9 hk9).F rfl⟩)
      | _ + 3, h9, _ => exact absurd h9 (by omega)
    · match s9, hs9, hk9 with
      | 0, _, hk9 =>
        have kr30 : T q21 = some (16, 0) := hk9
        refine lv_astore_n (lv' := [(2, .ref q21), (0, .ref h0), (1, .int v)]) hx hb dK_open_5 rfl hl (by decide) rfl (fun ls hl => ?_)
        refine lv_aload_n hx hb dK_open_6 rfl (lv_at hl 0 rfl) ?_
        refine lv_ifnull hx hb dK_open_7 ?_
        refine lv_aload_n hx hb dK_open_10 rfl (lv_at hl 0 rfl) ?_
        refine ty_get (ci := 13) (C := "LatticeKeys$KeyPair") (TT := T_KP) (N := 3) (kd := (16, 0)) hx hb hts (wg_ft i_KP) hown hK hO kr30 (nxg clo_nil kr30 rfl) hP (fun _ h9 => h9) rfl 2 (by decide) (hts _ (wg_t kw_752)) (fun _ h9 => h9) (cd := (7, 0, 0)) rfl dK_open_11 (fun v30 hv30 => ?_)
        obtain rfl := (show v30 = .null from hv30)
        refine lv_ifnonnullN hx hb dK_open_14 ?_
        exact et_throw (own := "LatticeKeys") (cls := "java/util/NoSuchElementException") (text := "no such keys of ML-KEM with a secret part") (names := ["java/lang/RuntimeException", "java/lang/Exception"]) (ik := 156) (is := 192) (ic := 160) hx hb htr ctr_NSE_0 ctr_NSE_1 ctr_NSE_2 ctr_NSE_5 hown (by decide) (by decide) (hts _ (wg_t kw_1064)) (hts _ (wg_t kw_34)) (hX.2.2.2.2.2.1 13 ("LatticeKeys", 192, "no such keys of ML-KEM with a secret part") rfl) (hat_NSE hts hX.2) hS.1 (hl.1.trans hml.symm) dK_open_17 dK_open_20 dK_open_21 dK_open_23 dK_open_26 htab (Nat.le_of_ble_eq_true rfl) (Nat.le_of_ble_eq_true rfl) (Nat.le_of_ble_eq_true rfl) (Nat.le_of_ble_eq_true rfl) hlk (Nat.le_of_ble_eq_true rfl) (Nat.le_of_ble_eq_true rfl) List.mem_cons_self hS.2.2 (thr_st hX.2) (fun t hz9 hk9 => ⟨⟨((T, tl, al, pn), pl), ⟨⟨⟨(by show tl ≤ 16384; omega), (by show al ≤ 8192; omega), (by show pn ≤ 8; omega), hXT, hU⟩, trivial⟩, hO⟩, lc_P hP hk9, hD⟩, (lc_S hS hz9 hk9).F rfl⟩)
      | 1, _, hk9 =>
        have kr31 : T q21 = some (16, 1) := hk9
        refine lv_astore_n (lv' := [(2, .ref q21), (0, .ref h0), (1, .int v)]) hx hb dK_open_5 rfl hl (by decide) rfl (fun ls hl => ?_)
        refine lv_aload_n hx hb dK_open_6 rfl (lv_at hl 0 rfl) ?_
        refine lv_ifnull hx hb dK_open_7 ?_
        refine lv_aload_n hx hb dK_open_10 rfl (lv_at hl 0 rfl) ?_
        refine ty_get (ci := 13) (C := "LatticeKeys$KeyPair") (TT := T_KP) (N := 3) (kd := (16, 1)) hx hb hts (wg_ft i_KP) hown hK hO kr31 (nxg clo_nil kr31 rfl) hP (fun _ h9 => h9) rfl 2 (by decide) (hts _ (wg_t kw_752)) (fun _ h9 => h9) (cd := (7, 0, 0)) rfl dK_open_11 (fun v31 hv31 => ?_)
        obtain rfl := (show v31 = .null from hv31)
        refine lv_ifnonnullN hx hb dK_open_14 ?_
        exact et_throw (own := "LatticeKeys") (cls := "java/util/NoSuchElementException") (text := "no such keys of ML-KEM with a secret part") (names := ["java/lang/RuntimeException", "java/lang/Exception"]) (ik := 156) (is := 192) (ic := 160) hx hb htr ctr_NSE_0 ctr_NSE_1 ctr_NSE_2 ctr_NSE_5 hown (by decide) (by decide) (hts _ (wg_t kw_1064)) (hts _ (wg_t kw_34)) (hX.2.2.2.2.2.1 13 ("LatticeKeys", 192, "no such keys of ML-KEM with a secret part") rfl) (hat_NSE hts hX.2) hS.1 (hl.1.trans hml.symm) dK_open_17 dK_open_20 dK_open_21 dK_open_23 dK_open_26 htab (Nat.le_of_ble_eq_true rfl) (Nat.le_of_ble_eq_true rfl) (Nat.le_of_ble_eq_true rfl) (Nat.le_of_ble_eq_true rfl) hlk (Nat.le_of_ble_eq_true rfl) (Nat.le_of_ble_eq_true rfl) List.mem_cons_self hS.2.2 (thr_st hX.2) (fun t hz9 hk9 => ⟨⟨((T, tl, al, pn), pl), ⟨⟨⟨(by show tl ≤ 16384; omega), (by show al ≤ 8192; omega), (by show pn ≤ 8; omega), hXT, hU⟩, trivial⟩, hO⟩, lc_P hP hk9, hD⟩, (lc_S hS hz9 hk9).F rfl⟩)
      | 2, _, hk9 =>
        have kr32 : T q21 = some (16, 2) := hk9
        refine lv_astore_n (lv' := [(2, .ref q21), (0, .ref h0), (1, .int v)]) hx hb dK_open_5 rfl hl (by decide) rfl (fun ls hl => ?_)
        refine lv_aload_n hx hb dK_open_6 rfl (lv_at hl 0 rfl) ?_
        refine lv_ifnull hx hb dK_open_7 ?_
        refine lv_aload_n hx hb dK_open_10 rfl (lv_at hl 0 rfl) ?_
        refine ty_get (ci := 13) (C := "LatticeKeys$KeyPair") (TT := T_KP) (N := 3) (kd := (16, 2)) hx hb hts (wg_ft i_KP) hown hK hO kr32 (nxg clo_nil kr32 rfl) hP (fun _ h9 => h9) rfl 2 (by decide) (hts _ (wg_t kw_752)) (fun _ h9 => h9) (cd := (7, 0, 0)) rfl dK_open_11 (fun v32 hv32 => ?_)
        obtain rfl := (show v32 = .null from hv32)
        refine lv_ifnonnullN hx hb dK_open_14 ?_
        exact et_throw (own := "LatticeKeys") (cls := "java/util/NoSuchElementException") (text := "no such keys of ML-KEM with a secret part") (names := ["java/lang/RuntimeException", "java/lang/Exception"]) (ik := 156) (is := 192) (ic := 160) hx hb htr ctr_NSE_0 ctr_NSE_1 ctr_NSE_2 ctr_NSE_5 hown (by decide) (by decide) (hts _ (wg_t kw_1064)) (hts _ (wg_t kw_34)) (hX.2.2.2.2.2.1 13 ("LatticeKeys", 192, "no such keys of ML-KEM with a secret part") rfl) (hat_NSE hts hX.2) hS.1 (hl.1.trans hml.symm) dK_open_17 dK_open_20 dK_open_21 dK_open_23 dK_open_26 htab (Nat.le_of_ble_eq_true rfl) (Nat.le_of_ble_eq_true rfl) (Nat.le_of_ble_eq_true rfl) (Nat.le_of_ble_eq_true rfl) hlk (Nat.le_of_ble_eq_true rfl) (Nat.le_of_ble_eq_true rfl) List.mem_cons_self hS.2.2 (thr_st hX.2) (fun t hz9 hk9 => ⟨⟨((T, tl, al, pn), pl), ⟨⟨⟨(by show tl ≤ 16384; omega), (by show al ≤ 8192; omega), (by show pn ≤ 8; omega), hXT, hU⟩, trivial⟩, hO⟩, lc_P hP hk9, hD⟩, (lc_S hS hz9 hk9).F rfl⟩)
      | _ + 3, h9, _ => exact absurd h9 (by omega)
set_option maxHeartbeats 4000000 in
set_option maxRecDepth 100000 in
theorem e_K_sign (l : Launch) (htr : l.stackTraces = false) (g : Gd) (sz : Nat) (T : Ty) (pl : va_W) (hO : okx g T [] pl) (hU : uni T) (v : Int32) (v2 : Int32) (h0 kt ka kp kks kds ksp kkm kda tl al pn : Nat) (k_kt : T kt = some (1, 16384)) (k_ka : T ka = some (1, 8192)) (k_kp : T kp = some (6, 0)) (k_kks : T kks = some (50, 0)) (k_kds : T kds = some (51, 0)) (k_ksp : T ksp = some (10, 0)) (k_kkm : T kkm = some (13, 0)) (k_kda : T kda = some (15, 0)) (hb : tl ≤ 16384 ∧ al ≤ 8192 ∧ pn ≤ 8)  : etMet l y_K_sign w_K_sign ({ frames := 7, cells := 1, slots := 6, locals := 203 } : Room) (va_Pc [.ref h0, .int v, .int v2] (pr (ex g) g.1 vcl sz ([(h0, .inr (0, [.ref kt, .int (nI tl), .ref ka, .int (nI al), .ref kp, .int (nI pn), .ref kks, .ref kds, .ref ksp, .ref kkm, .ref kda]))] ++ pl))) ["java/util/NoSuchElementException", "java/lang/IllegalArgumentException", "java/lang/IllegalStateException"] (va_Qi (fun (r : Int32) (u : (Ty × Nat × Nat × Nat) × va_W) => ((u.1.2.1 ≤ 16384 ∧ u.1.2.2.1 ≤ 8192 ∧ u.1.2.2.2 ≤ 8 ∧ ext T u.1.1 ∧ uni u.1.1) ∧ (True)) ∧ okx g u.1.1 [] u.2) (po g.1 vcl (va_A ([(h0, .inr (0, [.ref kt, .int (nI tl), .ref ka, .int (nI al), .ref kp, .int (nI pn), .ref kks, .ref kds, .ref ksp, .ref kkm, .ref kda]))] ++ pl) sz) (fun (u : (Ty × Nat × Nat × Nat) × va_W) => [(h0, .inr (0, [.ref kt, .int (nI (u.1.2.1)), .ref ka, .int (nI (u.1.2.2.1)), .ref kp, .int (nI (u.1.2.2.2)), .ref kks, .ref kds, .ref ksp, .ref kkm, .ref kda]))] ++ u.2)) (va_A ([(h0, .inr (0, [.ref kt, .int (nI tl), .ref ka, .int (nI al), .ref kp, .int (nI pn), .ref kks, .ref kds, .ref ksp, .ref kkm, .ref kda]))] ++ pl) sz)) (xtP (fun (u : (Ty × Nat × Nat × Nat) × va_W) => ((u.1.2.1 ≤ 16384 ∧ u.1.2.2.1 ≤ 8192 ∧ u.1.2.2.2 ≤ 8 ∧ ext T u.1.1 ∧ uni u.1.1) ∧ (True)) ∧ okx g u.1.1 [] u.2) (po g.1 vcl (va_A ([(h0, .inr (0, [.ref kt, .int (nI tl), .ref ka, .int (nI al), .ref kp, .int (nI pn), .ref kks, .ref kds, .ref ksp, .ref kkm, .ref kda]))] ++ pl) sz) (fun (u : (Ty × Nat × Nat × Nat) × va_W) => [(h0, .inr (0, [.ref kt, .int (nI (u.1.2.1)), .ref ka, .int (nI (u.1.2.2.1)), .ref kp, .int (nI (u.1.2.2.2)), .ref kks, .ref kds, .ref ksp, .ref kkm, .ref kda]))] ++ u.2)) (va_A ([(h0, .inr (0, [.ref kt, .int (nI tl), .ref ka, .int (nI al), .ref kp, .int (nI pn), .ref kks, .ref kds, .ref ksp, .ref kkm, .ref kda]))] ++ pl) sz)) 1 6 (va_A ([(h0, .inr (0, [.ref kt, .int (nI tl), .ref ka, .int (nI al), .ref kp, .int (nI pn), .ref kks, .ref kds, .ref ksp, .ref kkm, .ref kda]))] ++ pl) sz) := by
  refine et_entry (cc := c_K_sign) (maxL := 6) (ret := (some .int)) (by decide) rfl (Nat.le_of_ble_eq_true rfl) ?_
  intro p e s m args below meth c ls F hr hlk htab hsz hP hD hX hA hl
  obtain ⟨hx, hb, hml, hown, hts⟩ := id F
  have hE := hX.1
  have hK := hE.1
  generalize va_A ([(h0, .inr (0, [.ref kt, .int (nI tl), .ref ka, .int (nI al), .ref kp, .int (nI pn), .ref kks, .ref kds, .ref ksp, .ref kkm, .ref kda]))] ++ pl) sz = A at hD hX hE hA ⊢
  have hXT : ext T T := ext_rf
  have hS : va_S A s.heap s.heap [] := va_S.rf
  have hl : lv_has ls 6 [(0, .ref h0), (1, .int v), (2, .int v2)] := hl
  refine lv_aload_n hx hb dK_sign_0 rfl (lv_at hl 0 rfl) ?_
  refine lv_iload_n hx hb dK_sign_1 rfl (lv_at hl 1 rfl) ?_
  refine mp_q (cx := [(h0, .inr (0, [.ref kt, .int (nI tl), .ref ka, .int (nI al), .ref kp, .int (nI pn), .ref kks, .ref kds, .ref ksp, .ref kkm, .ref kda]))]) (wr := []) hP hD hS hA [0] [] rfl rfl rfl (by decide) (va_runV (As := [.int v]) (rest := []) F (t_K_findDsa l g _ T  pl hO hU  v h0 kt ka kp kks kds ksp kkm kda tl al pn k_kt k_ka k_kp k_kks k_kds k_ksp k_kkm k_kda (by omega)) (cwV 1 hts (wg_app (wg_c kw_1165 (wg_c kw_1167 (wg_c ks_32 (wg_c kw_1 wg_n)))) kw_1168) rfl rfl rfl (by decide +kernel) ⟨by decide, by decide⟩) (pp_V (en_ok g) (q0 := 0) hK hP hD hS hA hE [0] rfl rfl rfl rfl) rfl rfl hl.1 rfl (lv_room (Nat.le_of_ble_eq_true rfl)) dK_sign_2 ⟨Nat.le_of_ble_eq_true rfl, Nat.le_of_ble_eq_true rfl⟩) (fun r21 pl H locs hu21 hP hD hS => ?_)
  obtain ⟨hq21, hO⟩ := hu21
  have hP : va_P g.1 vcl ([(h0, .inr (0, [.ref kt, .int (nI tl), .ref ka, .int (nI al), .ref kp, .int (nI pn), .ref kks, .ref kds, .ref ksp, .ref kkm, .ref kda]))] ++ pl) _ := hP
  have hD : va_D _ ([(h0, .inr (0, [.ref kt, .int (nI tl), .ref ka, .int (nI al), .ref kp, .int (nI pn), .ref kks, .ref kds, .ref ksp, .ref kkm, .ref kda]))] ++ pl) := hD
  refine W.widen (k := 0) (n := 0) (by omega) (by omega) ?_
  match r21, hq21 with
  | none, _ =>
    refine lv_astore_nN (lv' := [(3, .null), (0, .ref h0), (1, .int v), (2, .int v2)]) hx hb dK_sign_5 rfl hl (by decide) rfl (fun ls hl => ?_)
    refine lv_aload_nN hx hb dK_sign_6 rfl (lv_at hl 0 rfl) ?_
    refine lv_ifnullN (tgt := 17) hx hb dK_sign_7 (by decide) ?_
    exact et_throw (own := "LatticeKeys") (cls := "java/util/NoSuchElementException") (text := "no such keys of ML-DSA with a secret part") (names := ["java/lang/RuntimeException", "java/lang/Exception"]) (ik := 156) (is := 203) (ic := 160) hx hb htr ctr_NSE_0 ctr_NSE_1 ctr_NSE_2 ctr_NSE_5 hown (by decide) (by decide) (hts _ (wg_t kw_1064)) (hts _ (wg_t kw_34)) (hX.2.2.2.2.2.1 15 ("LatticeKeys", 203, "no such keys of ML-DSA with a secret part") rfl) (hat_NSE hts hX.2) hS.1 (hl.1.trans hml.symm) dK_sign_17 dK_sign_20 dK_sign_21 dK_sign_23 dK_sign_26 htab (Nat.le_of_ble_eq_true rfl) (Nat.le_of_ble_eq_true rfl) (Nat.le_of_ble_eq_true rfl) (Nat.le_of_ble_eq_true rfl) hlk (Nat.le_of_ble_eq_true rfl) (Nat.le_of_ble_eq_true rfl) List.mem_cons_self hS.2.2 (thr_st hX.2) (fun t hz9 hk9 => ⟨⟨((T, tl, al, pn), pl), ⟨⟨⟨(by show tl ≤ 16384; omega), (by show al ≤ 8192; omega), (by show pn ≤ 8; omega), hXT, hU⟩, trivial⟩, hO⟩, lc_P hP hk9, hD⟩, (lc_S hS hz9 hk9).F rfl⟩)
  | some q21, hq9 =>
    obtain ⟨s9, hs9, hk9⟩ := hq9 q21 rfl
    rcases hk9 with hk9 | hk9
    · match s9, hs9, hk9 with
      | 0, _, hk9 =>
        have kr21 : T q21 = some (17, 3) := hk9
        refine lv_astore_n (lv' := [(3, .ref q21), (0, .ref h0), (1, .int v), (2, .int v2)]) hx hb dK_sign_5 rfl hl (by decide) rfl (fun ls hl => ?_)
        refine lv_aload_n hx hb dK_sign_6 rfl (lv_at hl 0 rfl) ?_
        refine lv_ifnull hx hb dK_sign_7 ?_
        refine lv_aload_n hx hb dK_sign_10 rfl (lv_at hl 0 rfl) ?_
        refine ty_get (ci := 13) (C := "LatticeKeys$KeyPair") (TT := T_KP) (N := 3) (kd := (17, 3)) hx hb hts (wg_ft i_KP) hown hK hO kr21 (nxg clo_nil kr21 rfl) hP (fun _ h9 => h9) rfl 2 (by decide) (hts _ (wg_t kw_752)) (fun _ h9 => h9) (cd := (3, 1, 2560)) rfl dK_sign_11 (fun v21 hv21 => ?_)
        obtain ⟨r22, rfl, kr22⟩ := (show ∃ r : Nat, v21 = .ref r ∧ T r = some (1, 2560) from hv21)
        refine lv_ifnonnull (tgt := 27) hx hb dK_sign_14 (by decide) ?_
        refine lv_aload_n hx hb dK_sign_27 rfl (lv_at hl 1 rfl) ?_
        refine lv_bipush (v := nI 32) hx hb dK_sign_28 (by decide) ?_
        refine lv_iload_n hx hb dK_sign_30 rfl (lv_at hl 3 rfl) ?_
        refine mp_i (cx := [(h0, .inr (0, [.ref kt, .int (nI tl), .ref ka, .int (nI al), .ref kp, .int (nI pn), .ref kks, .ref kds, .ref ksp, .ref kkm, .ref kda]))]) (wr := []) hP hD hS hA [0] [] rfl rfl rfl (by decide) (va_runV (As := [.int (nI 32), .int v2]) (rest := []) F (t_K_holdsContext l g _ T  pl hO hU  32 v2 h0 kt ka kp kks kds ksp kkm kda tl al pn k_kt k_ka k_kp k_kks k_kds k_ksp k_kkm k_kda (by omega) (by omega)) (cwV 2 hts (wg_app (wg_c kw_1170 (wg_c kw_1172 (wg_c ks_33 (wg_c kw_1 wg_n)))) kw_1173) rfl rfl rfl (by decide +kernel) ⟨by decide, by decide⟩) (pp_V (en_ok g) (q0 := 0) hK hP hD hS hA hE [0] rfl rfl rfl rfl) rfl rfl hl.1 rfl (lv_room (Nat.le_of_ble_eq_true rfl)) dK_sign_31 ⟨Nat.le_of_ble_eq_true rfl, Nat.le_of_ble_eq_true rfl⟩) (fun r23 pl H locs hu22 hP hD hS => ?_)
        obtain ⟨hq22, hO⟩ := hu22
        have hP : va_P g.1 vcl ([(h0, .inr (0, [.ref kt, .int (nI tl), .ref ka, .int (nI al), .ref kp, .int (nI pn), .ref kks, .ref kds, .ref ksp, .ref kkm, .ref kda]))] ++ pl) _ := hP
        have hD : va_D _ ([(h0, .inr (0, [.ref kt, .int (nI tl), .ref ka, .int (nI al), .ref kp, .int (nI pn), .ref kks, .ref kds, .ref ksp, .ref kkm, .ref kda]))] ++ pl) := hD
        refine W.widen (k := 0) (n := 0) (by omega) (by omega) ?_
        rcases hq22 with hq22 | hq22
        · obtain rfl := hq22
          refine lv_if_ne (tgt := 47) hx hb dK_sign_34 (by decide) (fun h21 => absurd h21 (by decide)) (fun h21 => ?_)
          exact et_throw (own := "LatticeKeys") (cls := "java/lang/IllegalArgumentException") (text := "a context of another length, or a short tape") (names := ["java/lang/RuntimeException", "java/lang/Exception"]) (ik := 79) (is := 209) (ic := 83) hx hb htr ctr_IAE_0 ctr_IAE_1 ctr_IAE_2 ctr_IAE_5 hown (by decide) (by decide) (hts _ (wg_t kw_501)) (hts _ (wg_t kw_18)) (hX.2.2.2.2.2.1 16 ("LatticeKeys", 209, "a context of another length, or a short tape") rfl) (hat_IAE hts hX.2) hS.1 (hl.1.trans hml.symm) dK_sign_37 dK_sign_40 dK_sign_41 dK_sign_43 dK_sign_46 htab (Nat.le_of_ble_eq_true rfl) (Nat.le_of_ble_eq_true rfl) (Nat.le_of_ble_eq_true rfl) (Nat.le_of_ble_eq_true rfl) hlk (Nat.le_of_ble_eq_true rfl) (Nat.le_of_ble_eq_true rfl) (List.mem_cons_of_mem _ List.mem_cons_self) hS.2.2 (thr_st hX.2) (fun t hz9 hk9 => ⟨⟨((T, tl, al, pn), pl), ⟨⟨⟨(by show tl ≤ 16384; omega), (by show al ≤ 8192; omega), (by show pn ≤ 8; omega), hXT, hU⟩, trivial⟩, hO⟩, lc_P hP hk9, hD⟩, (lc_S hS hz9 hk9).F rfl⟩)
        · obtain ⟨rfl, z21, hz21, rfl, hz22⟩ := hq22
          refine lv_if_ne (tgt := 47) hx hb dK_sign_34 (by decide) (fun h22 => ?_) (fun h22 => absurd h22 (by decide))
          refine lv_aload_n hx hb dK_sign_47 rfl (lv_at hl 1 rfl) ?_
          refine va_get (D := g.1) (ci := 0) (C := "LatticeKeys") (T := T_K) (N := 11) hx hb hts (wg_ft i_K) hown hK hP 0 rfl rfl 7 (by decide) (hts _ (wg_t kw_381)) (fun _ h9 => h9) rfl dK_sign_48 ?_
          refine lv_aload_n hx hb dK_sign_51 rfl (lv_at hl 0 rfl) ?_
          refine ty_get (ci := 13) (C := "LatticeKeys$KeyPair") (TT := T_KP) (N := 3) (kd := (17, 3)) hx hb hts (wg_ft i_KP) hown hK hO kr21 (nxg clo_nil kr21 rfl) hP (fun _ h9 => h9) rfl 0 (by decide) (hts _ (wg_t kw_746)) (fun _ h9 => h9) (cd := (1, 0, 3)) rfl dK_sign_52 (fun v22 hv22 => ?_)
          obtain rfl := (show v22 = .int (nI 3) from hv22)
          refine lv_iconst (v := nI 3) hx hb dK_sign_55 (by decide) ?_
          refine mi_isub hx hb dK_sign_56 (by omega) ?_
          refine mi_as (show nI (3 - 3) = nI 0 from rfl) ?_
          refine ty_aald51 hx hb hK hO k_kds (nxg clo_nil k_kds rfl) hP (by omega) dK_sign_57 (fun r24 kr23 => ?_)
          refine lv_astore (lv' := [(4, .ref r24), (3, .ref q21), (0, .ref h0), (1, .int v), (2, .int (nI z21))]) hx hb dK_sign_58 hl (by decide) rfl (fun ls hl => ?_)
          refine lv_aload_n hx hb dK_sign_60 rfl (lv_at hl 2 rfl) ?_
          refine va_get (D := g.1) (ci := 0) (C := "LatticeKeys") (T := T_K) (N := 11) hx hb hts (wg_ft i_K) hown hK hP 0 rfl rfl 10 (by decide) (hts _ (wg_t kw_384)) (fun _ h9 => h9) rfl dK_sign_61 ?_
          refine lv_aload hx hb dK_sign_64 (lv_at hl 0 rfl) ?_
          refine lv_aload_n hx hb dK_sign_66 rfl (lv_at hl 1 rfl) ?_
          refine ty_get (ci := 13) (C := "LatticeKeys$KeyPair") (TT := T_KP) (N := 3) (kd := (17, 3)) hx hb hts (wg_ft i_KP) hown hK hO kr21 (nxg clo_nil kr21 rfl) hP (fun _ h9 => h9) rfl 2 (by decide) (hts _ (wg_t kw_752)) (fun _ h9 => h9) (cd := (3, 1, 2560)) rfl dK_sign_67 (fun v23 hv23 => ?_)
          obtain ⟨r25, rfl, kr24⟩ := (show ∃ r : Nat, v23 = .ref r ∧ T r = some (1, 2560) from hv23)
          refine lv_aload_n hx hb dK_sign_70 rfl (lv_at hl 2 rfl) ?_
          refine va_get (D := g.1) (ci := 0) (C := "LatticeKeys") (T := T_K) (N := 11) hx hb hts (wg_ft i_K) hown hK hP 0 rfl rfl 0 (by decide) (hts _ (wg_t kw_374)) (fun _ h9 => h9) rfl dK_sign_71 ?_
          refine lv_aload_n hx hb dK_sign_74 rfl (lv_at hl 2 rfl) ?_
          refine va_get (D := g.1) (ci := 0) (C := "LatticeKeys") (T := T_K) (N := 11) hx hb hts (wg_ft i_K) hown hK hP 0 rfl rfl 1 (by decide) (hts _ (wg_t kw_375)) (fun _ h9 => h9) rfl dK_sign_75 ?_
          refine lv_iload_n hx hb dK_sign_78 rfl (lv_at hl 4 rfl) ?_
          refine lv_aload_n hx hb dK_sign_79 rfl (lv_at hl 2 rfl) ?_
          refine va_get (D := g.1) (ci := 0) (C := "LatticeKeys") (T := T_K) (N := 11) hx hb hts (wg_ft i_K) hown hK hP 0 rfl rfl 2 (by decide) (hts _ (wg_t kw_376)) (fun _ h9 => h9) rfl dK_sign_80 ?_
          refine mp_i (cx := []) (wr := [(h0, .inr (0, [.ref kt, .int (nI tl), .ref ka, .int (nI al), .ref kp, .int (nI pn), .ref kks, .ref kds, .ref ksp, .ref kkm, .ref kda]))]) hP hD hS hA [] [0] rfl rfl rfl (by decide) (va_runV (As := [.ref r24, .ref r25, .ref kt, .int (nI tl), .int (nI z21), .ref ka]) (rest := []) F (t_DA_makeSignature_0 l g _ T [] pl hO hU clo_nil clo_nil clo_nil clo_nil kda r24 r25 kt ka 16384 tl (nI z21) k_kda kr23 kr24 k_kt k_ka (by omega) (by omega) (by omega)) (cwV 6 hts (wg_app (wg_c kw_1175 (wg_c kw_1176 (wg_c kw_1177 (wg_c kw_5 wg_n)))) kw_1178) rfl rfl rfl (by decide +kernel) ⟨by decide, by decide⟩) (pp_VT (en_ok g) (ci := 6) (kd := (15, 0)) hK hO k_kda (nxg clo_nil k_kda rfl) (fun _ h9 => ko1 h9) hP hD hS hA hE [] rfl rfl rfl) rfl rfl hl.1 rfl (lv_room (Nat.le_of_ble_eq_true rfl)) dK_sign_83 ⟨Nat.le_of_ble_eq_true rfl, Nat.le_of_ble_eq_true rfl⟩) (fun r26 pl H locs hu23 hP hD hS => ?_)
          obtain ⟨hq23, hO⟩ := hu23
          have hP : va_P g.1 vcl ([(h0, .inr (0, [.ref kt, .int (nI tl), .ref ka, .int (nI al), .ref kp, .int (nI pn), .ref kks, .ref kds, .ref ksp, .ref kkm, .ref kda]))] ++ pl) _ := hP
          have hD : va_D _ ([(h0, .inr (0, [.ref kt, .int (nI tl), .ref ka, .int (nI al), .ref kp, .int (nI pn), .ref kks, .ref kds, .ref ksp, .ref kkm, .ref kda]))] ++ pl) := hD
          refine W.widen (k := 0) (n := 0) (by omega) (by omega) ?_
          refine lv_istore (lv' := [(5, .int r26), (4, .ref r24), (3, .ref q21), (0, .ref h0), (1, .int v), (2, .int (nI z21))]) hx hb dK_sign_86 hl (by decide) rfl (fun ls hl => ?_)
          refine lv_iload hx hb dK_sign_88 (lv_at hl 0 rfl) ?_
          refine lv_if_ne (tgt := 103) hx hb dK_sign_90 (by decide) (fun h23 => ?_) (fun h23 => ?_)
          · refine lv_aload_n hx hb dK_sign_103 rfl (lv_at hl 3 rfl) ?_
            refine lv_iconst (v := nI 0) hx hb dK_sign_104 (by decide) ?_
            refine va_put (D := g.1) (ci := 0) (v := .int (nI 0)) (ty := .int) (C := "LatticeKeys") (T := T_K) (N := 11) hx hb hts (wg_ft i_K) ty_K k_K n_K hown hK hP hD hS 0 rfl rfl 1 (by decide) (hts _ (wg_t kw_375)) (fun _ h9 => h9) rfl (by decide +kernel) rfl rfl (Nat.le_of_ble_eq_true rfl) dK_sign_105 (fun H locs hP hD hS => ?_)
            have hP : va_P g.1 vcl ([(h0, .inr (0, [.ref kt, .int (nI 0), .ref ka, .int (nI al), .ref kp, .int (nI pn), .ref kks, .ref kds, .ref ksp, .ref kkm, .ref kda]))] ++ pl) _ := hP
            have hD : va_D _ ([(h0, .inr (0, [.ref kt, .int (nI 0), .ref ka, .int (nI al), .ref kp, .int (nI pn), .ref kks, .ref kds, .ref ksp, .ref kkm, .ref kda]))] ++ pl) := hD
            refine lv_aload_n hx hb dK_sign_108 rfl (lv_at hl 3 rfl) ?_
            refine lv_aload hx hb dK_sign_109 (lv_at hl 1 rfl) ?_
            refine ty_get (ci := 2) (C := "LatticeKeys$DsaSet") (TT := T_DS) (N := 17) (kd := (43, 0)) hx hb hts (wg_ft i_DS) hown hK hO kr23 (nxg clo_nil kr23 rfl) hP (fun _ h9 => h9) rfl 16 (by decide) (hts _ (wg_t kw_337)) (fun _ h9 => h9) (cd := (1, 0, 2420)) rfl dK_sign_111 (fun v24 hv24 => ?_)
            obtain rfl := (show v24 = .int (nI 2420) from hv24)
            refine va_put (D := g.1) (ci := 0) (v := .int (nI 2420)) (ty := .int) (C := "LatticeKeys") (T := T_K) (N := 11) hx hb hts (wg_ft i_K) ty_K k_K n_K hown hK hP hD hS 0 rfl rfl 3 (by decide) (hts _ (wg_t kw_377)) (fun _ h9 => h9) rfl (by decide +kernel) rfl rfl (Nat.le_of_ble_eq_true rfl) dK_sign_114 (fun H locs hP hD hS => ?_)
            have hP : va_P g.1 vcl ([(h0, .inr (0, [.ref kt, .int (nI 0), .ref ka, .int (nI 2420), .ref kp, .int (nI pn), .ref kks, .ref kds, .ref ksp, .ref kkm, .ref kda]))] ++ pl) _ := hP
            have hD : va_D _ ([(h0, .inr (0, [.ref kt, .int (nI 0), .ref ka, .int (nI 2420), .ref kp, .int (nI pn), .ref kks, .ref kds, .ref ksp, .ref kkm, .ref kda]))] ++ pl) := hD
            refine lv_iload hx hb dK_sign_117 (lv_at hl 0 rfl) ?_
            refine et_ret ?_
            exact mp_iret hx hb hr hlk hP hD hS ((T, 0, 2420, pn), pl) ⟨⟨⟨(by show 0 ≤ 16384; omega), (by show 2420 ≤ 8192; omega), (by show pn ≤ 8; omega), hXT, hU⟩, trivial⟩, hO⟩ [0] rfl rfl rfl (by omega) (by omega) dK_sign_119
          · exact et_throw (own := "LatticeKeys") (cls := "java/lang/IllegalStateException") (text := "no signature was found in time") (names := ["java/lang/RuntimeException", "java/lang/Exception"]) (ik := 69) (is := 215) (ic := 73) hx hb htr ctr_ISE_0 ctr_ISE_1 ctr_ISE_2 ctr_ISE_5 hown (by decide) (by decide) (hts _ (wg_t kw_420)) (hts _ (wg_t kw_17)) (hX.2.2.2.2.2.1 17 ("LatticeKeys", 215, "no signature was found in time") rfl) (hat_ISE hts hX.2) hS.1 (hl.1.trans hml.symm) dK_sign_93 dK_sign_96 dK_sign_97 dK_sign_99 dK_sign_102 htab (Nat.le_of_ble_eq_true rfl) (Nat.le_of_ble_eq_true rfl) (Nat.le_of_ble_eq_true rfl) (Nat.le_of_ble_eq_true rfl) hlk (Nat.le_of_ble_eq_true rfl) (Nat.le_of_ble_eq_true rfl) (List.mem_cons_of_mem _ (List.mem_cons_of_mem _ List.mem_cons_self)) hS.2.2 (thr_st hX.2) (fun t hz9 hk9 => ⟨⟨((T, tl, al, pn), pl), ⟨⟨⟨(by show tl ≤ 16384; omega), (by show al ≤ 8192; omega), (by show pn ≤ 8; omega), hXT, hU⟩, trivial⟩, hO⟩, lc_P hP hk9, hD⟩, (lc_S hS hz9 hk9).F rfl⟩)
      | 1, _, hk9 =>
        have kr25 : T q21 = some (17, 4) := hk9
        refine lv_astore_n (lv' := [(3, .ref q21), (0, .ref h0), (1, .int v), (2, .int v2)]) hx hb dK_sign_5 rfl hl (by decide) rfl (fun ls hl => ?_)
        refine lv_aload_n hx hb dK_sign_6 rfl (lv_at hl 0 rfl) ?_
        refine lv_ifnull hx hb dK_sign_7 ?_
        refine lv_aload_n hx hb dK_sign_10 rfl (lv_at hl 0 rfl) ?_
        refine ty_get (ci := 13) (C := "LatticeKeys$KeyPair") (TT := T_KP) (N := 3) (kd := (17, 4)) hx hb hts (wg_ft i_KP) hown hK hO kr25 (nxg clo_nil kr25 rfl) hP (fun _ h9 => h9) rfl 2 (by decide) (hts _ (wg_t kw_752)) (fun _ h9 => h9) (cd := (3, 1, 4032)) rfl dK_sign_11 (fun v25 hv25 => ?_)
        obtain ⟨r27, rfl, kr26⟩ := (show ∃ r : Nat, v25 = .ref r ∧ T r = some (1, 4032) from hv25)
        refine lv_ifnonnull (tgt := 27) hx hb dK_sign_14 (by decide) ?_
        refine lv_aload_n hx hb dK_sign_27 rfl (lv_at hl 1 rfl) ?_
        refine lv_bipush (v := nI 32) hx hb dK_sign_28 (by decide) ?_
        refine lv_iload_n hx hb dK_sign_30 rfl (lv_at hl 3 rfl) ?_
        refine mp_i (cx := [(h0, .inr (0, [.ref kt, .int (nI tl), .ref ka, .int (nI al), .ref kp, .int (nI pn), .ref kks, .ref kds, .ref ksp, .ref kkm, .ref kda]))]) (wr := []) hP hD hS hA [0] [] rfl rfl rfl (by decide) (va_runV (As := [.int (nI 32), .int v2]) (rest := []) F (t_K_holdsContext l g _ T  pl hO hU  32 v2 h0 kt ka kp kks kds ksp kkm kda tl al pn k_kt k_ka k_kp k_kks k_kds k_ksp k_kkm k_kda (by omega) (by omega)) (cwV 2 hts (wg_app (wg_c kw_1170 (wg_c kw_1172 (wg_c ks_33 (wg_c kw_1 wg_n)))) kw_1173) rfl rfl rfl (by decide +kernel) ⟨by decide, by decide⟩) (pp_V (en_ok g) (q0 := 0) hK hP hD hS hA hE [0] rfl rfl rfl rfl) rfl rfl hl.1 rfl (lv_room (Nat.le_of_ble_eq_true rfl)) dK_sign_31 ⟨Nat.le_of_ble_eq_true rfl, Nat.le_of_ble_eq_true rfl⟩) (fun r28 pl H locs hu24 hP hD hS => ?_)
        obtain ⟨hq24, hO⟩ := hu24
        have hP : va_P g.1 vcl ([(h0, .inr (0, [.ref kt, .int (nI tl), .ref ka, .int (nI al), .ref kp, .int (nI pn), .ref kks, .ref kds, .ref ksp, .ref kkm, .ref kda]))] ++ pl) _ := hP
        have hD : va_D _ ([(h0, .inr (0, [.ref kt, .int (nI tl), .ref ka, .int (nI al), .ref kp, .int (nI pn), .ref kks, .ref kds, .ref ksp, .ref kkm, .ref kda]))] ++ pl) := hD
        refine W.widen (k := 0) (n := 0) (by omega) (by omega) ?_
        rcases hq24 with hq24 | hq24
        · obtain rfl := hq24
          refine lv_if_ne (tgt := 47) hx hb dK_sign_34 (by decide) (fun h24 => absurd h24 (by decide)) (fun h24 => ?_)
          exact et_throw (own := "LatticeKeys") (cls := "java/lang/IllegalArgumentException") (text := "a context of another length, or a short tape") (names := ["java/lang/RuntimeException", "java/lang/Exception"]) (ik := 79) (is := 209) (ic := 83) hx hb htr ctr_IAE_0 ctr_IAE_1 ctr_IAE_2 ctr_IAE_5 hown (by decide) (by decide) (hts _ (wg_t kw_501)) (hts _ (wg_t kw_18)) (hX.2.2.2.2.2.1 16 ("LatticeKeys", 209, "a context of another length, or a short tape") rfl) (hat_IAE hts hX.2) hS.1 (hl.1.trans hml.symm) dK_sign_37 dK_sign_40 dK_sign_41 dK_sign_43 dK_sign_46 htab (Nat.le_of_ble_eq_true rfl) (Nat.le_of_ble_eq_true rfl) (Nat.le_of_ble_eq_true rfl) (Nat.le_of_ble_eq_true rfl) hlk (Nat.le_of_ble_eq_true rfl) (Nat.le_of_ble_eq_true rfl) (List.mem_cons_of_mem _ List.mem_cons_self) hS.2.2 (thr_st hX.2) (fun t hz9 hk9 => ⟨⟨((T, tl, al, pn), pl), ⟨⟨⟨(by show tl ≤ 16384; omega), (by show al ≤ 8192; omega), (by show pn ≤ 8; omega), hXT, hU⟩, trivial⟩, hO⟩, lc_P hP hk9, hD⟩, (lc_S hS hz9 hk9).F rfl⟩)
        · obtain ⟨rfl, z22, hz23, rfl, hz24⟩ := hq24
          refine lv_if_ne (tgt := 47) hx hb dK_sign_34 (by decide) (fun h25 => ?_) (fun h25 => absurd h25 (by decide))
          refine lv_aload_n hx hb dK_sign_47 rfl (lv_at hl 1 rfl) ?_
          refine va_get (D := g.1) (ci := 0) (C := "LatticeKeys") (T := T_K) (N := 11) hx hb hts (wg_ft i_K) hown hK hP 0 rfl rfl 7 (by decide) (hts _ (wg_t kw_381)) (fun _ h9 => h9) rfl dK_sign_48 ?_
          refine lv_aload_n hx hb dK_sign_51 rfl (lv_at hl 0 rfl) ?_
          refine ty_get (ci := 13) (C := "LatticeKeys$KeyPair") (TT := T_KP) (N := 3) (kd := (17, 4)) hx hb hts (wg_ft i_KP) hown hK hO kr25 (nxg clo_nil kr25 rfl) hP (fun _ h9 => h9) rfl 0 (by decide) (hts _ (wg_t kw_746)) (fun _ h9 => h9) (cd := (1, 0, 4)) rfl dK_sign_52 (fun v26 hv26 => ?_)
          obtain rfl := (show v26 = .int (nI 4) from hv26)
          refine lv_iconst (v := nI 3) hx hb dK_sign_55 (by decide) ?_
          refine mi_isub hx hb dK_sign_56 (by omega) ?_
          refine mi_as (show nI (4 - 3) = nI 1 from rfl) ?_
          refine ty_aald51 hx hb hK hO k_kds (nxg clo_nil k_kds rfl) hP (by omega) dK_sign_57 (fun r29 kr27 => ?_)
          refine lv_astore (lv' := [(4, .ref r29), (3, .ref q21), (0, .ref h0), (1, .int v), (2, .int (nI z22))]) hx hb dK_sign_58 hl (by decide) rfl (fun ls hl => ?_)
          refine lv_aload_n hx hb dK_sign_60 rfl (lv_at hl 2 rfl) ?_
          refine va_get (D := g.1) (ci := 0) (C := "LatticeKeys") (T := T_K) (N := 11) hx hb hts (wg_ft i_K) hown hK hP 0 rfl rfl 10 (by decide) (hts _ (wg_t kw_384)) (fun _ h9 => h9) rfl dK_sign_61 ?_
          refine lv_aload hx hb dK_sign_64 (lv_at hl 0 rfl) ?_
          refine lv_aload_n hx hb dK_sign_66 rfl (lv_at hl 1 rfl) ?_
          refine ty_get (ci := 13) (C := "LatticeKeys$KeyPair") (TT := T_KP) (N := 3) (kd := (17, 4)) hx hb hts (wg_ft i_KP) hown hK hO kr25 (nxg clo_nil kr25 rfl) hP (fun _ h9 => h9) rfl 2 (by decide) (hts _ (wg_t kw_752)) (fun _ h9 => h9) (cd := (3, 1, 4032)) rfl dK_sign_67 (fun v27 hv27 => ?_)
          obtain ⟨r30, rfl, kr28⟩ := (show ∃ r : Nat, v27 = .ref r ∧ T r = some (1, 4032) from hv27)
          refine lv_aload_n hx hb dK_sign_70 rfl (lv_at hl 2 rfl) ?_
          refine va_get (D := g.1) (ci := 0) (C := "LatticeKeys") (T := T_K) (N := 11) hx hb hts (wg_ft i_K) hown hK hP 0 rfl rfl 0 (by decide) (hts _ (wg_t kw_374)) (fun _ h9 => h9) rfl dK_sign_71 ?_
          refine lv_aload_n hx hb dK_sign_74 rfl (lv_at hl 2 rfl) ?_
          refine va_get (D := g.1) (ci := 0) (C := "LatticeKeys") (T := T_K) (N := 11) hx hb hts (wg_ft i_K) hown hK hP 0 rfl rfl 1 (by decide) (hts _ (wg_t kw_375)) (fun _ h9 => h9) rfl dK_sign_75 ?_
          refine lv_iload_n hx hb dK_sign_78 rfl (lv_at hl 4 rfl) ?_
          refine lv_aload_n hx hb dK_sign_79 rfl (lv_at hl 2 rfl) ?_
          refine va_get (D := g.1) (ci := 0) (C := "LatticeKeys") (T := T_K) (N := 11) hx hb hts (wg_ft i_K) hown hK hP 0 rfl rfl 2 (by decide) (hts _ (wg_t kw_376)) (fun _ h9 => h9) rfl dK_sign_80 ?_
          refine mp_i (cx := []) (wr := [(h0, .inr (0, [.ref kt, .int (nI tl), .ref ka, .int (nI al), .ref kp, .int (nI pn), .ref kks, .ref kds, .ref ksp, .ref kkm, .ref kda]))]) hP hD hS hA [] [0] rfl rfl rfl (by decide) (va_runV (As := [.ref r29, .ref r30, .ref kt, .int (nI tl), .int (nI z22), .ref ka]) (rest := []) F (t_DA_makeSignature_1 l g _ T [] pl hO hU clo_nil clo_nil clo_nil clo_nil kda r29 r30 kt ka 16384 tl (nI z22) k_kda kr27 kr28 k_kt k_ka (by omega) (by omega) (by omega)) (cwV 6 hts (wg_app (wg_c kw_1175 (wg_c kw_1176 (wg_c kw_1177 (wg_c kw_5 wg_n)))) kw_1178) rfl rfl rfl (by decide +kernel) ⟨by decide, by decide⟩) (pp_VT (en_ok g) (ci := 6) (kd := (15, 0)) hK hO k_kda (nxg clo_nil k_kda rfl) (fun _ h9 => ko1 h9) hP hD hS hA hE [] rfl rfl rfl) rfl rfl hl.1 rfl (lv_room (Nat.le_of_ble_eq_true rfl)) dK_sign_83 ⟨Nat.le_of_ble_eq_true rfl, Nat.le_of_ble_eq_true rfl⟩) (fun r31 pl H locs hu25 hP hD hS => ?_)
          obtain ⟨hq25, hO⟩ := hu25
          have hP : va_P g.1 vcl ([(h0, .inr (0, [.ref kt, .int (nI tl), .ref ka, .int (nI al), .ref kp, .int (nI pn), .ref kks, .ref kds, .ref ksp, .ref kkm, .ref kda]))] ++ pl) _ := hP
          have hD : va_D _ ([(h0, .inr (0, [.ref kt, .int (nI tl), .ref ka, .int (nI al), .ref kp, .int (nI pn), .ref kks, .ref kds, .ref ksp, .ref kkm, .ref kda]))] ++ pl) := hD
          refine W.widen (k := 0) (n := 0) (by omega) (by omega) ?_
          refine lv_istore (lv' := [(5, .int r31), (4, .ref r29), (3, .ref q21), (0, .ref h0), (1, .int v), (2, .int (nI z22))]) hx hb dK_sign_86 hl (by decide) rfl (fun ls hl => ?_)
          refine lv_iload hx hb dK_sign_88 (lv_at hl 0 rfl) ?_
          refine lv_if_ne (tgt := 103) hx hb dK_sign_90 (by decide) (fun h26 => ?_) (fun h26 => ?_)
          · refine lv_aload_n hx hb dK_sign_103 rfl (lv_at hl 3 rfl) ?_
            refine lv_iconst (v := nI 0) hx hb dK_sign_104 (by decide) ?_
            refine va_put (D := g.1) (ci := 0) (v := .int (nI 0)) (ty := .int) (C := "LatticeKeys") (T := T_K) (N := 11) hx hb hts (wg_ft i_K) ty_K k_K n_K hown hK hP hD hS 0 rfl rfl 1 (by decide) (hts _ (wg_t kw_375)) (fun _ h9 => h9) rfl (by decide +kernel) rfl rfl (Nat.le_of_ble_eq_true rfl) dK_sign_105 (fun H locs hP hD hS => ?_)
            have hP : va_P g.1 vcl ([(h0, .inr (0, [.ref kt, .int (nI 0), .ref ka, .int (nI al), .ref kp, .int (nI pn), .ref kks, .ref kds, .ref ksp, .ref kkm, .ref kda]))] ++ pl) _ := hP
            have hD : va_D _ ([(h0, .inr (0, [.ref kt, .int (nI 0), .ref ka, .int (nI al), .ref kp, .int (nI pn), .ref kks, .ref kds, .ref ksp, .ref kkm, .ref kda]))] ++ pl) := hD
            refine lv_aload_n hx hb dK_sign_108 rfl (lv_at hl 3 rfl) ?_
            refine lv_aload hx hb dK_sign_109 (lv_at hl 1 rfl) ?_
            refine ty_get (ci := 2) (C := "LatticeKeys$DsaSet") (TT := T_DS) (N := 17) (kd := (44, 0)) hx hb hts (wg_ft i_DS) hown hK hO kr27 (nxg clo_nil kr27 rfl) hP (fun _ h9 => h9) rfl 16 (by decide) (hts _ (wg_t kw_337)) (fun _ h9 => h9) (cd := (1, 0, 3309)) rfl dK_sign_111 (fun v28 hv28 => ?_)
            obtain rfl := (show v28 = .int (nI 3309) from hv28)
            refine va_put (D := g.1) (ci := 0) (v := .int (nI 3309)) (ty := .int) (C := "LatticeKeys") (T := T_K) (N := 11) hx hb hts (wg_ft i_K) ty_K k_K n_K hown hK hP hD hS 0 rfl rfl 3 (by decide) (hts _ (wg_t kw_377)) (fun _ h9 => h9) rfl (by decide +kernel) rfl rfl (Nat.le_of_ble_eq_true rfl) dK_sign_114 (fun H locs hP hD hS => ?_)
            have hP : va_P g.1 vcl ([(h0, .inr (0, [.ref kt, .int (nI 0), .ref ka, .int (nI 3309), .ref kp, .int (nI pn), .ref kks, .ref kds, .ref ksp, .ref kkm, .ref kda]))] ++ pl) _ := hP
            have hD : va_D _ ([(h0, .inr (0, [.ref kt, .int (nI 0), .ref ka, .int (nI 3309), .ref kp, .int (nI pn), .ref kks, .ref kds, .ref ksp, .ref kkm, .ref kda]))] ++ pl) := hD
            refine lv_iload hx hb dK_sign_117 (lv_at hl 0 rfl) ?_
            refine et_ret ?_
            exact mp_iret hx hb hr hlk hP hD hS ((T, 0, 3309, pn), pl) ⟨⟨⟨(by show 0 ≤ 16384; omega), (by show 3309 ≤ 8192; omega), (by show pn ≤ 8; omega), hXT, hU⟩, trivial⟩, hO⟩ [0] rfl rfl rfl (by omega) (by omega) dK_sign_119
          · exact et_throw (own := "LatticeKeys") (cls := "java/lang/IllegalStateException") (text := "no signature was found in time") (names := ["java/lang/RuntimeException", "java/lang/Exception"]) (ik := 69) (is := 215) (ic := 73) hx hb htr ctr_ISE_0 ctr_ISE_1 ctr_ISE_2 ctr_ISE_5 hown (by decide) (by decide) (hts _ (wg_t kw_420)) (hts _ (wg_t kw_17)) (hX.2.2.2.2.2.1 17 ("LatticeKeys", 215, "no signature was found in time") rfl) (hat_ISE hts hX.2) hS.1 (hl.1.trans hml.symm) dK_sign_93 dK_sign_96 dK_sign_97 dK_sign_99 dK_sign_102 htab (Nat.le_of_ble_eq_true rfl) (Nat.le_of_ble_eq_true rfl) (Nat.le_of_ble_eq_true rfl) (Nat.le_of_ble_eq_true rfl) hlk (Nat.le_of_ble_eq_true rfl) (Nat.le_of_ble_eq_true rfl) (List.mem_cons_of_mem _ (List.mem_cons_of_mem _ List.mem_cons_self)) hS.2.2 (thr_st hX.2) (fun t hz9 hk9 => ⟨⟨((T, tl, al, pn), pl), ⟨⟨⟨(by show tl ≤ 16384; omega), (by show al ≤ 8192; omega), (by show pn ≤ 8; omega), hXT, hU⟩, trivial⟩, hO⟩, lc_P hP hk9, hD⟩, (lc_S hS hz9 hk9).F rfl⟩)
      | 2, _, hk9 =>
        have kr29 : T q21 = some (17, 5) := hk9
        refine lv_astore_n (lv' := [(3, .ref q21), (0, .ref h0), (1, .int v), (2, .int v2)]) hx hb dK_sign_5 rfl hl (by decide) rfl (fun ls hl => ?_)
        refine lv_aload_n hx hb dK_sign_6 rfl (lv_at hl 0 rfl) ?_
        refine lv_ifnull hx hb dK_sign_7 ?_
        refine lv_aload_n hx hb dK_sign_10 rfl (lv_at hl 0 rfl) ?_
        refine ty_get (ci := 13) (C := "LatticeKeys$KeyPair") (TT := T_KP) (N := 3) (kd := (17, 5)) hx hb hts (wg_ft i_KP) hown hK hO kr29 (nxg clo_nil kr29 rfl) hP (fun _ h9 => h9) rfl 2 (by decide) (hts _ (wg_t kw_752)) (fun _ h9 => h9) (cd := (3, 1, 4896)) rfl dK_sign_11 (fun v29 hv29 => ?_)
        obtain ⟨r32, rfl, kr30⟩ := (show ∃ r : Nat, v29 = .ref r ∧ T r = some (1, 4896) from hv29)
        refine lv_ifnonnull (tgt := 27) hx hb dK_sign_14 (by decide) ?_
        refine lv_aload_n hx hb dK_sign_27 rfl (lv_at hl 1 rfl) ?_
        refine lv_bipush (v := nI 32) hx hb dK_sign_28 (by decide) ?_
        refine lv_iload_n hx hb dK_sign_30 rfl (lv_at hl 3 rfl) ?_
        refine mp_i (cx := [(h0, .inr (0, [.ref kt, .int (nI tl), .ref ka, .int (nI al), .ref kp, .int (nI pn), .ref kks, .ref kds, .ref ksp, .ref kkm, .ref kda]))]) (wr := []) hP hD hS hA [0] [] rfl rfl rfl (by decide) (va_runV (As := [.int (nI 32), .int v2]) (rest := []) F (t_K_holdsContext l g _ T  pl hO hU  32 v2 h0 kt ka kp kks kds ksp kkm kda tl al pn k_kt k_ka k_kp k_kks k_kds k_ksp k_kkm k_kda (by omega) (by omega)) (cwV 2 hts (wg_app (wg_c kw_1170 (wg_c kw_1172 (wg_c ks_33 (wg_c kw_1 wg_n)))) kw_1173) rfl rfl rfl (by decide +kernel) ⟨by decide, by decide⟩) (pp_V (en_ok g) (q0 := 0) hK hP hD hS hA hE [0] rfl rfl rfl rfl) rfl rfl hl.1 rfl (lv_room (Nat.le_of_ble_eq_true rfl)) dK_sign_31 ⟨Nat.le_of_ble_eq_true rfl, Nat.le_of_ble_eq_true rfl⟩) (fun r33 pl H locs hu26 hP hD hS => ?_)
        obtain ⟨hq26, hO⟩ := hu26
        have hP : va_P g.1 vcl ([(h0, .inr (0, [.ref kt, .int (nI tl), .ref ka, .int (nI al), .ref kp, .int (nI pn), .ref kks, .ref kds, .ref ksp, .ref kkm, .ref kda]))] ++ pl) _ := hP
        have hD : va_D _ ([(h0, .inr (0, [.ref kt, .int (nI tl), .ref ka, .int (nI al), .ref kp, .int (nI pn), .ref kks, .ref kds, .ref ksp, .ref kkm, .ref kda]))] ++ pl) := hD
        refine W.widen (k := 0) (n := 0) (by omega) (by omega) ?_
        rcases hq26 with hq26 | hq26
        · obtain rfl := hq26
          refine lv_if_ne (tgt := 47) hx hb dK_sign_34 (by decide) (fun h27 => absurd h27 (by decide)) (fun h27 => ?_)
          exact et_throw (own := "LatticeKeys") (cls := "java/lang/IllegalArgumentException") (text := "a context of another length, or a short tape") (names := ["java/lang/RuntimeException", "java/lang/Exception"]) (ik := 79) (is := 209) (ic := 83) hx hb htr ctr_IAE_0 ctr_IAE_1 ctr_IAE_2 ctr_IAE_5 hown (by decide) (by decide) (hts _ (wg_t kw_501)) (hts _ (wg_t kw_18)) (hX.2.2.2.2.2.1 16 ("LatticeKeys", 209, "a context of another length, or a short tape") rfl) (hat_IAE hts hX.2) hS.1 (hl.1.trans hml.symm) dK_sign_37 dK_sign_40 dK_sign_41 dK_sign_43 dK_sign_46 htab (Nat.le_of_ble_eq_true rfl) (Nat.le_of_ble_eq_true rfl) (Nat.le_of_ble_eq_true rfl) (Nat.le_of_ble_eq_true rfl) hlk (Nat.le_of_ble_eq_true rfl) (Nat.le_of_ble_eq_true rfl) (List.mem_cons_of_mem _ List.mem_cons_self) hS.2.2 (thr_st hX.2) (fun t hz9 hk9 => ⟨⟨((T, tl, al, pn), pl), ⟨⟨⟨(by show tl ≤ 16384; omega), (by show al ≤ 8192; omega), (by show pn ≤ 8; omega), hXT, hU⟩, trivial⟩, hO⟩, lc_P hP hk9, hD⟩, (lc_S hS hz9 hk9).F rfl⟩)
        · obtain ⟨rfl, z23, hz25, rfl, hz26⟩ := hq26
          refine lv_if_ne (tgt := 47) hx hb dK_sign_34 (by decide) (fun h28 => ?_) (fun h28 => absurd h28 (by decide))
          refine lv_aload_n hx hb dK_sign_47 rfl (lv_at hl 1 rfl) ?_
          refine va_get (D := g.1) (ci := 0) (C := "LatticeKeys") (T := T_K) (N := 11) hx hb hts (wg_ft i_K) hown hK hP 0 rfl rfl 7 (by decide) (hts _ (wg_t kw_381)) (fun _ h9 => h9) rfl dK_sign_48 ?_
          refine lv_aload_n hx hb dK_sign_51 rfl (lv_at hl 0 rfl) ?_
          refine ty_get (ci := 13) (C := "LatticeKeys$KeyPair") (TT := T_KP) (N := 3) (kd := (17, 5)) hx hb hts (wg_ft i_KP) hown hK hO kr29 (nxg clo_nil kr29 rfl) hP (fun _ h9 => h9) rfl 0 (by decide) (hts _ (wg_t kw_746)) (fun _ h9 => h9) (cd := (1, 0, 5)) rfl dK_sign_52 (fun v30 hv30 => ?_)
          obtain rfl := (show v30 = .int (nI 5) from hv30)
          refine lv_iconst (v := nI 3) hx hb dK_sign_55 (by decide) ?_
          refine mi_isub hx hb dK_sign_56 (by omega) ?_
          refine mi_as (show nI (5 - 3) = nI 2 from rfl) ?_
          refine ty_aald51 hx hb hK hO k_kds (nxg clo_nil k_kds rfl) hP (by omega) dK_sign_57 (fun r34 kr31 => ?_)
          refine lv_astore (lv' := [(4, .ref r34), (3, .ref q21), (0, .ref h0), (1, .int v), (2, .int (nI z23))]) hx hb dK_sign_58 hl (by decide) rfl (fun ls hl => ?_)
          refine lv_aload_n hx hb dK_sign_60 rfl (lv_at hl 2 rfl) ?_
          refine va_get (D := g.1) (ci := 0) (C := "LatticeKeys") (T := T_K) (N := 11) hx hb hts (wg_ft i_K) hown hK hP 0 rfl rfl 10 (by decide) (hts _ (wg_t kw_384)) (fun _ h9 => h9) rfl dK_sign_61 ?_
          refine lv_aload hx hb dK_sign_64 (lv_at hl 0 rfl) ?_
          refine lv_aload_n hx hb dK_sign_66 rfl (lv_at hl 1 rfl) ?_
          refine ty_get (ci := 13) (C := "LatticeKeys$KeyPair") (TT := T_KP) (N := 3) (kd := (17, 5)) hx hb hts (wg_ft i_KP) hown hK hO kr29 (nxg clo_nil kr29 rfl) hP (fun _ h9 => h9) rfl 2 (by decide) (hts _ (wg_t kw_752)) (fun _ h9 => h9) (cd := (3, 1, 4896)) rfl dK_sign_67 (fun v31 hv31 => ?_)
          obtain ⟨r35, rfl, kr32⟩ := (show ∃ r : Nat, v31 = .ref r ∧ T r = some (1, 4896) from hv31)
          refine lv_aload_n hx hb dK_sign_70 rfl (lv_at hl 2 rfl) ?_
          refine va_get (D := g.1) (ci := 0) (C := "LatticeKeys") (T := T_K) (N := 11) hx hb hts (wg_ft i_K) hown hK hP 0 rfl rfl 0 (by decide) (hts _ (wg_t kw_374)) (fun _ h9 => h9) rfl dK_sign_71 ?_
          refine lv_aload_n hx hb dK_sign_74 rfl (lv_at hl 2 rfl) ?_
          refine va_get (D := g.1) (ci := 0) (C := "LatticeKeys") (T := T_K) (N := 11) hx hb hts (wg_ft i_K) hown hK hP 0 rfl rfl 1 (by decide) (hts _ (wg_t kw_375)) (fun _ h9 => h9) rfl dK_sign_75 ?_
          refine lv_iload_n hx hb dK_sign_78 rfl (lv_at hl 4 rfl) ?_
          refine lv_aload_n hx hb dK_sign_79 rfl (lv_at hl 2 rfl) ?_
          refine va_get (D := g.1) (ci := 0) (C := "LatticeKeys") (T := T_K) (N := 11) hx hb hts (wg_ft i_K) hown hK hP 0 rfl rfl 2 (by decide) (hts _ (wg_t kw_376)) (fun _ h9 => h9) rfl dK_sign_80 ?_
          refine mp_i (cx := []) (wr := [(h0, .inr (0, [.ref kt, .int (nI tl), .ref ka, .int (nI al), .ref kp, .int (nI pn), .ref kks, .ref kds, .ref ksp, .ref kkm, .ref kda]))]) hP hD hS hA [] [0] rfl rfl rfl (by decide) (va_runV (As := [.ref r34, .ref r35, .ref kt, .int (nI tl), .int (nI z23), .ref ka]) (rest := []) F (t_DA_makeSignature_2 l g _ T [] pl hO hU clo_nil clo_nil clo_nil clo_nil kda r34 r35 kt ka 16384 tl (nI z23) k_kda kr31 kr32 k_kt k_ka (by omega) (by omega) (by omega)) (cwV 6 hts (wg_app (wg_c kw_1175 (wg_c kw_1176 (wg_c kw_1177 (wg_c kw_5 wg_n)))) kw_1178) rfl rfl rfl (by decide +kernel) ⟨by decide, by decide⟩) (pp_VT (en_ok g) (ci := 6) (kd := (15, 0)) hK hO k_kda (nxg clo_nil k_kda rfl) (fun _ h9 => ko1 h9) hP hD hS hA hE [] rfl rfl rfl) rfl rfl hl.1 rfl (lv_room (Nat.le_of_ble_eq_true rfl)) dK_sign_83 ⟨Nat.le_of_ble_eq_true rfl, Nat.le_of_ble_eq_true rfl⟩) (fun r36 pl H locs hu27 hP hD hS => ?_)
          obtain ⟨hq27, hO⟩ := hu27
          have hP : va_P g.1 vcl ([(h0, .inr (0, [.ref kt, .int (nI tl), .ref ka, .int (nI al), .ref kp, .int (nI pn), .ref kks, .ref kds, .ref ksp, .ref kkm, .ref kda]))] ++ pl) _ := hP
          have hD : va_D _ ([(h0, .inr (0, [.ref kt, .int (nI tl), .ref ka, .int (nI al), .ref kp, .int (nI pn), .ref kks, .ref kds, .ref ksp, .ref kkm, .ref kda]))] ++ pl) := hD
          refine W.widen (k := 0) (n := 0) (by omega) (by omega) ?_
          refine lv_istore (lv' := [(5, .int r36), (4, .ref r34), (3, .ref q21), (0, .ref h0), (1, .int v), (2, .int (nI z23))]) hx hb dK_sign_86 hl (by decide) rfl (fun ls hl => ?_)
          refine lv_iload hx hb dK_sign_88 (lv_at hl 0 rfl) ?_
          refine lv_if_ne (tgt := 103) hx hb dK_sign_90 (by decide) (fun h29 => ?_) (fun h29 => ?_)
          · refine lv_aload_n hx hb dK_sign_103 rfl (lv_at hl 3 rfl) ?_
            refine lv_iconst (v := nI 0) hx hb dK_sign_104 (by decide) ?_
            refine va_put (D := g.1) (ci := 0) (v := .int (nI 0)) (ty := .int) (C := "LatticeKeys") (T := T_K) (N := 11) hx hb hts (wg_ft i_K) ty_K k_K n_K hown hK hP hD hS 0 rfl rfl 1 (by decide) (hts _ (wg_t kw_375)) (fun _ h9 => h9) rfl (by decide +kernel) rfl rfl (Nat.le_of_ble_eq_true rfl) dK_sign_105 (fun H locs hP hD hS => ?_)
            have hP : va_P g.1 vcl ([(h0, .inr (0, [.ref kt, .int (nI 0), .ref ka, .int (nI al), .ref kp, .int (nI pn), .ref kks, .ref kds, .ref ksp, .ref kkm, .ref kda]))] ++ pl) _ := hP
            have hD : va_D _ ([(h0, .inr (0, [.ref kt, .int (nI 0), .ref ka, .int (nI al), .ref kp, .int (nI pn), .ref kks, .ref kds, .ref ksp, .ref kkm, .ref kda]))] ++ pl) := hD
            refine lv_aload_n hx hb dK_sign_108 rfl (lv_at hl 3 rfl) ?_
            refine lv_aload hx hb dK_sign_109 (lv_at hl 1 rfl) ?_
            refine ty_get (ci := 2) (C := "LatticeKeys$DsaSet") (TT := T_DS) (N := 17) (kd := (45, 0)) hx hb hts (wg_ft i_DS) hown hK hO kr31 (nxg clo_nil kr31 rfl) hP (fun _ h9 => h9) rfl 16 (by decide) (hts _ (wg_t kw_337)) (fun _ h9 => h9) (cd := (1, 0, 4627)) rfl dK_sign_111 (fun v32 hv32 => ?_)
            obtain rfl := (show v32 = .int (nI 4627) from hv32)
            refine va_put (D := g.1) (ci := 0) (v := .int (nI 4627)) (ty := .int) (C := "LatticeKeys") (T := T_K) (N := 11) hx hb hts (wg_ft i_K) ty_K k_K n_K hown hK hP hD hS 0 rfl rfl 3 (by decide) (hts _ (wg_t kw_377)) (fun _ h9 => h9) rfl (by decide +kernel) rfl rfl (Nat.le_of_ble_eq_true rfl) dK_sign_114 (fun H locs hP hD hS => ?_)
            have hP : va_P g.1 vcl ([(h0, .inr (0, [.ref kt, .int (nI 0), .ref ka, .int (nI 4627), .ref kp, .int (nI pn), .ref kks, .ref kds, .ref ksp, .ref kkm, .ref kda]))] ++ pl) _ := hP
            have hD : va_D _ ([(h0, .inr (0, [.ref kt, .int (nI 0), .ref ka, .int (nI 4627), .ref kp, .int (nI pn), .ref kks, .ref kds, .ref ksp, .ref kkm, .ref kda]))] ++ pl) := hD
            refine lv_iload hx hb dK_sign_117 (lv_at hl 0 rfl) ?_
            refine et_ret ?_
            exact mp_iret hx hb hr hlk hP hD hS ((T, 0, 4627, pn), pl) ⟨⟨⟨(by show 0 ≤ 16384; omega), (by show 4627 ≤ 8192; omega), (by show pn ≤ 8; omega), hXT, hU⟩, trivial⟩, hO⟩ [0] rfl rfl rfl (by omega) (by omega) dK_sign_119
          · exact et_throw (own := "LatticeKeys") (cls := "java/lang/IllegalStateException") (text := "no signature was found in time") (names := ["java/lang/RuntimeException", "java/lang/Exception"]) (ik := 69) (is := 215) (ic := 73) hx hb htr ctr_ISE_0 ctr_ISE_1 ctr_ISE_2 ctr_ISE_5 hown (by decide) (by decide) (hts _ (wg_t kw_420)) (hts _ (wg_t kw_17)) (hX.2.2.2.2.2.1 17 ("LatticeKeys", 215, "no signature was found in time") rfl) (hat_ISE hts hX.2) hS.1 (hl.1.trans hml.symm) dK_sign_93 dK_sign_96 dK_sign_97 dK_sign_99 dK_sign_102 htab (Nat.le_of_ble_eq_true rfl) (Nat.le_of_ble_eq_true rfl) (Nat.le_of_ble_eq_true rfl) (Nat.le_of_ble_eq_true rfl) hlk (Nat.le_of_ble_eq_true rfl) (Nat.le_of_ble_eq_true rfl) (List.mem_cons_of_mem _ (List.mem_cons_of_mem _ List.mem_cons_self)) hS.2.2 (thr_st hX.2) (fun t hz9 hk9 => ⟨⟨((T, tl, al, pn), pl), ⟨⟨⟨(by show tl ≤ 16384; omega), (by show al ≤ 8192; omega), (by show pn ≤ 8; omega), hXT, hU⟩, trivial⟩, hO⟩, lc_P hP hk9, hD⟩, (lc_S hS hz9 hk9).F rfl⟩)
      | _ + 3, h9, _ => exact absurd h9 (by omega)
    · match s9, hs9, hk9 with
      | 0, _, hk9 =>
        have kr33 : T q21 = some (16, 3) := hk9
        refine lv_astore_n (lv' := [(3, .ref q21), (0, .ref h0), (1, .int v), (2, .int v2)]) hx hb dK_sign_5 rfl hl (by decide) rfl (fun ls hl => ?_)
        refine lv_aload_n hx hb dK_sign_6 rfl (lv_at hl 0 rfl) ?_
        refine lv_ifnull hx hb dK_sign_7 ?_
        refine lv_aload_n hx hb dK_sign_10 rfl (lv_at hl 0 rfl) ?_
        refine ty_get (ci := 13) (C := "LatticeKeys$KeyPair") (TT := T_KP) (N := 3) (kd := (16, 3)) hx hb hts (wg_ft i_KP) hown hK hO kr33 (nxg clo_nil kr33 rfl) hP (fun _ h9 => h9) rfl 2 (by decide) (hts _ (wg_t kw_752)) (fun _ h9 => h9) (cd := (7, 0, 0)) rfl dK_sign_11 (fun v33 hv33 => ?_)
        obtain rfl := (show v33 = .null from hv33)
        refine lv_ifnonnullN hx hb dK_sign_14 ?_
        exact et_throw (own := "LatticeKeys") (cls := "java/util/NoSuchElementException") (text := "no such keys of ML-DSA with a secret part") (names := ["java/lang/RuntimeException", "java/lang/Exception"]) (ik := 156) (is := 203) (ic := 160) hx hb htr ctr_NSE_0 ctr_NSE_1 ctr_NSE_2 ctr_NSE_5 hown (by decide) (by decide) (hts _ (wg_t kw_1064)) (hts _ (wg_t kw_34)) (hX.2.2.2.2.2.1 15 ("LatticeKeys", 203, "no such keys of ML-DSA with a secret part") rfl) (hat_NSE hts hX.2) hS.1 (hl.1.trans hml.symm) dK_sign_17 dK_sign_20 dK_sign_21 dK_sign_23 dK_sign_26 htab (Nat.le_of_ble_eq_true rfl) (Nat.le_of_ble_eq_true rfl) (Nat.le_of_ble_eq_true rfl) (Nat.le_of_ble_eq_true rfl) hlk (Nat.le_of_ble_eq_true rfl) (Nat.le_of_ble_eq_true rfl) List.mem_cons_self hS.2.2 (thr_st hX.2) (fun t hz9 hk9 => ⟨⟨((T, tl, al, pn), pl), ⟨⟨⟨(by show tl ≤ 16384; omega), (by show al ≤ 8192; omega), (by show pn ≤ 8; omega), hXT, hU⟩, trivial⟩, hO⟩, lc_P hP hk9, hD⟩, (lc_S hS hz9 hk9).F rfl⟩)
      | 1, _, hk9 =>
        have kr34 : T q21 = some (16, 4) := hk9
        refine lv_astore_n (lv' := [(3, .ref q21), (0, .ref h0), (1, .int v), (2, .int v2)]) hx hb dK_sign_5 rfl hl (by decide) rfl (fun ls hl => ?_)
        refine lv_aload_n hx hb dK_sign_6 rfl (lv_at hl 0 rfl) ?_
        refine lv_ifnull hx hb dK_sign_7 ?_
        refine lv_aload_n hx hb dK_sign_10 rfl (lv_at hl 0 rfl) ?_
        refine ty_get (ci := 13) (C := "LatticeKeys$KeyPair") (TT := T_KP) (N := 3) (kd := (16, 4)) hx hb hts (wg_ft i_KP) hown hK hO kr34 (nxg clo_nil kr34 rfl) hP (fun _ h9 => h9) rfl 2 (by decide) (hts _ (wg_t kw_752)) (fun _ h9 => h9) (cd := (7, 0, 0)) rfl dK_sign_11 (fun v34 hv34 => ?_)
        obtain rfl := (show v34 = .null from hv34)
        refine lv_ifnonnullN hx hb dK_sign_14 ?_
        exact et_throw (own := "LatticeKeys") (cls := "java/util/NoSuchElementException") (text := "no such keys of ML-DSA with a secret part") (names := ["java/lang/RuntimeException", "java/lang/Exception"]) (ik := 156) (is := 203) (ic := 160) hx hb htr ctr_NSE_0 ctr_NSE_1 ctr_NSE_2 ctr_NSE_5 hown (by decide) (by decide) (hts _ (wg_t kw_1064)) (hts _ (wg_t kw_34)) (hX.2.2.2.2.2.1 15 ("LatticeKeys", 203, "no such keys of ML-DSA with a secret part") rfl) (hat_NSE hts hX.2) hS.1 (hl.1.trans hml.symm) dK_sign_17 dK_sign_20 dK_sign_21 dK_sign_23 dK_sign_26 htab (Nat.le_of_ble_eq_true rfl) (Nat.le_of_ble_eq_true rfl) (Nat.le_of_ble_eq_true rfl) (Nat.le_of_ble_eq_true rfl) hlk (Nat.le_of_ble_eq_true rfl) (Nat.le_of_ble_eq_true rfl) List.mem_cons_self hS.2.2 (thr_st hX.2) (fun t hz9 hk9 => ⟨⟨((T, tl, al, pn), pl), ⟨⟨⟨(by show tl ≤ 16384; omega), (by show al ≤ 8192; omega), (by show pn ≤ 8; omega), hXT, hU⟩, trivial⟩, hO⟩, lc_P hP hk9, hD⟩, (lc_S hS hz9 hk9).F rfl⟩)
      | 2, _, hk9 =>
        have kr35 : T q21 = some (16, 5) := hk9
        refine lv_astore_n (lv' := [(3, .ref q21), (0, .ref h0), (1, .int v), (2, .int v2)]) hx hb dK_sign_5 rfl hl (by decide) rfl (fun ls hl => ?_)
        refine lv_aload_n hx hb dK_sign_6 rfl (lv_at hl 0 rfl) ?_
        refine lv_ifnull hx hb dK_sign_7 ?_
        refine lv_aload_n hx hb dK_sign_10 rfl (lv_at hl 0 rfl) ?_
        refine ty_get (ci := 13) (C := "LatticeKeys$KeyPair") (TT := T_KP) (N := 3) (kd := (16, 5)) hx hb hts (wg_ft i_KP) hown hK hO kr35 (nxg clo_nil kr35 rfl) hP (fun _ h9 => h9) rfl 2 (by decide) (hts _ (wg_t kw_752)) (fun _ h9 => h9) (cd := (7, 0, 0)) rfl dK_sign_11 (fun v35 hv35 => ?_)
        obtain rfl := (show v35 = .null from hv35)
        refine lv_ifnonnullN hx hb dK_sign_14 ?_
        exact et_throw (own := "LatticeKeys") (cls := "java/util/NoSuchElementException") (text := "no such keys of ML-DSA with a secret part") (names := ["java/lang/RuntimeException", "java/lang/Exception"]) (ik := 156) (is := 203) (ic := 160) hx hb htr ctr_NSE_0 ctr_NSE_1 ctr_NSE_2 ctr_NSE_5 hown (by decide) (by decide) (hts _ (wg_t kw_1064)) (hts _ (wg_t kw_34)) (hX.2.2.2.2.2.1 15 ("LatticeKeys", 203, "no such keys of ML-DSA with a secret part") rfl) (hat_NSE hts hX.2) hS.1 (hl.1.trans hml.symm) dK_sign_17 dK_sign_20 dK_sign_21 dK_sign_23 dK_sign_26 htab (Nat.le_of_ble_eq_true rfl) (Nat.le_of_ble_eq_true rfl) (Nat.le_of_ble_eq_true rfl) (Nat.le_of_ble_eq_true rfl) hlk (Nat.le_of_ble_eq_true rfl) (Nat.le_of_ble_eq_true rfl) List.mem_cons_self hS.2.2 (thr_st hX.2) (fun t hz9 hk9 => ⟨⟨((T, tl, al, pn), pl), ⟨⟨⟨(by show tl ≤ 16384; omega), (by show al ≤ 8192; omega), (by show pn ≤ 8; omega), hXT, hU⟩, trivial⟩, hO⟩, lc_P hP hk9, hD⟩, (lc_S hS hz9 hk9).F rfl⟩)
      | _ + 3, h9, _ => exact absurd h9 (by omega)
set_option maxHeartbeats 4000000 in
set_option maxRecDepth 100000 in
theorem e_K_verify (l : Launch) (htr : l.stackTraces = false) (g : Gd) (sz : Nat) (T : Ty) (pl : va_W) (hO : okx g T [] pl) (hU : uni T) (v : Int32) (v2 : Int32) (h0 kt ka kp kks kds ksp kkm kda tl al pn : Nat) (k_kt : T kt = some (1, 16384)) (k_ka : T ka = some (1, 8192)) (k_kp : T kp = some (6, 0)) (k_kks : T kks = some (50, 0)) (k_kds : T kds = some (51, 0)) (k_ksp : T ksp = some (10, 0)) (k_kkm : T kkm = some (13, 0)) (k_kda : T kda = some (15, 0)) (hb : tl ≤ 16384 ∧ al ≤ 8192 ∧ pn ≤ 8)  : etMet l y_K_verify w_K_verify ({ frames := 6, cells := 1, slots := 6, locals := 180 } : Room) (va_Pc [.ref h0, .int v, .int v2] (pr (ex g) g.1 vcl sz ([(h0, .inr (0, [.ref kt, .int (nI tl), .ref ka, .int (nI al), .ref kp, .int (nI pn), .ref kks, .ref kds, .ref ksp, .ref kkm, .ref kda]))] ++ pl))) ["java/util/NoSuchElementException", "java/lang/IllegalArgumentException"] (va_Qi (fun (r : Int32) (u : (Ty × Nat × Nat × Nat) × va_W) => ((u.1.2.1 ≤ 16384 ∧ u.1.2.2.1 ≤ 8192 ∧ u.1.2.2.2 ≤ 8 ∧ ext T u.1.1 ∧ uni u.1.1) ∧ (True)) ∧ okx g u.1.1 [] u.2) (po g.1 vcl (va_A ([(h0, .inr (0, [.ref kt, .int (nI tl), .ref ka, .int (nI al), .ref kp, .int (nI pn), .ref kks, .ref kds, .ref ksp, .ref kkm, .ref kda]))] ++ pl) sz) (fun (u : (Ty × Nat × Nat × Nat) × va_W) => [(h0, .inr (0, [.ref kt, .int (nI (u.1.2.1)), .ref ka, .int (nI (u.1.2.2.1)), .ref kp, .int (nI (u.1.2.2.2)), .ref kks, .ref kds, .ref ksp, .ref kkm, .ref kda]))] ++ u.2)) (va_A ([(h0, .inr (0, [.ref kt, .int (nI tl), .ref ka, .int (nI al), .ref kp, .int (nI pn), .ref kks, .ref kds, .ref ksp, .ref kkm, .ref kda]))] ++ pl) sz)) (xtP (fun (u : (Ty × Nat × Nat × Nat) × va_W) => ((u.1.2.1 ≤ 16384 ∧ u.1.2.2.1 ≤ 8192 ∧ u.1.2.2.2 ≤ 8 ∧ ext T u.1.1 ∧ uni u.1.1) ∧ (True)) ∧ okx g u.1.1 [] u.2) (po g.1 vcl (va_A ([(h0, .inr (0, [.ref kt, .int (nI tl), .ref ka, .int (nI al), .ref kp, .int (nI pn), .ref kks, .ref kds, .ref ksp, .ref kkm, .ref kda]))] ++ pl) sz) (fun (u : (Ty × Nat × Nat × Nat) × va_W) => [(h0, .inr (0, [.ref kt, .int (nI (u.1.2.1)), .ref ka, .int (nI (u.1.2.2.1)), .ref kp, .int (nI (u.1.2.2.2)), .ref kks, .ref kds, .ref ksp, .ref kkm, .ref kda]))] ++ u.2)) (va_A ([(h0, .inr (0, [.ref kt, .int (nI tl), .ref ka, .int (nI al), .ref kp, .int (nI pn), .ref kks, .ref kds, .ref ksp, .ref kkm, .ref kda]))] ++ pl) sz)) 1 6 (va_A ([(h0, .inr (0, [.ref kt, .int (nI tl), .ref ka, .int (nI al), .ref kp, .int (nI pn), .ref kks, .ref kds, .ref ksp, .ref kkm, .ref kda]))] ++ pl) sz) := by
  refine et_entry (cc := c_K_verify) (maxL := 6) (ret := (some .boolean)) (by decide) rfl (Nat.le_of_ble_eq_true rfl) ?_
  intro p e s m args below meth c ls F hr hlk htab hsz hP hD hX hA hl
  obtain ⟨hx, hb, hml, hown, hts⟩ := id F
  have hE := hX.1
  have hK := hE.1
  generalize va_A ([(h0, .inr (0, [.ref kt, .int (nI tl), .ref ka, .int (nI al), .ref kp, .int (nI pn), .ref kks, .ref kds, .ref ksp, .ref kkm, .ref kda]))] ++ pl) sz = A at hD hX hE hA ⊢
  have hXT : ext T T := ext_rf
  have hS : va_S A s.heap s.heap [] := va_S.rf
  have hl : lv_has ls 6 [(0, .ref h0), (1, .int v), (2, .int v2)] := hl
  refine lv_aload_n hx hb dK_verify_0 rfl (lv_at hl 0 rfl) ?_
  refine lv_iload_n hx hb dK_verify_1 rfl (lv_at hl 1 rfl) ?_
  refine mp_q (cx := [(h0, .inr (0, [.ref kt, .int (nI tl), .ref ka, .int (nI al), .ref kp, .int (nI pn), .ref kks, .ref kds, .ref ksp, .ref kkm, .ref kda]))]) (wr := []) hP hD hS hA [0] [] rfl rfl rfl (by decide) (va_runV (As := [.int v]) (rest := []) F (t_K_findDsa l g _ T  pl hO hU  v h0 kt ka kp kks kds ksp kkm kda tl al pn k_kt k_ka k_kp k_kks k_kds k_ksp k_kkm k_kda (by omega)) (cwV 1 hts (wg_app (wg_c kw_1165 (wg_c kw_1167 (wg_c ks_32 (wg_c kw_1 wg_n)))) kw_1168) rfl rfl rfl (by decide +kernel) ⟨by decide, by decide⟩) (pp_V (en_ok g) (q0 := 0) hK hP hD hS hA hE [0] rfl rfl rfl rfl) rfl rfl hl.1 rfl (lv_room (Nat.le_of_ble_eq_true rfl)) dK_verify_2 ⟨Nat.le_of_ble_eq_true rfl, Nat.le_of_ble_eq_true rfl⟩) (fun r21 pl H locs hu21 hP hD hS => ?_)
  obtain ⟨hq21, hO⟩ := hu21
  have hP : va_P g.1 vcl ([(h0, .inr (0, [.ref kt, .int (nI tl), .ref ka, .int (nI al), .ref kp, .int (nI pn), .ref kks, .ref kds, .ref ksp, .ref kkm, .ref kda]))] ++ pl) _ := hP
  have hD : va_D _ ([(h0, .inr (0, [.ref kt, .int (nI tl), .ref ka, .int (nI al), .ref kp, .int (nI pn), .ref kks, .ref kds, .ref ksp, .ref kkm, .ref kda]))] ++ pl) := hD
  refine W.widen (k := 0) (n := 0) (by omega) (by omega) ?_
  match r21, hq21 with
  | none, _ =>
    refine lv_astore_nN (lv' := [(3, .null), (0, .ref h0), (1, .int v), (2, .int v2)]) hx hb dK_verify_5 rfl hl (by decide) rfl (fun ls hl => ?_)
    refine lv_aload_nN hx hb dK_verify_6 rfl (lv_at hl 0 rfl) ?_
    refine lv_ifnonnullN hx hb dK_verify_7 ?_
    exact et_throw (own := "LatticeKeys") (cls := "java/util/NoSuchElementException") (text := "no such keys of ML-DSA") (names := ["java/lang/RuntimeException", "java/lang/Exception"]) (ik := 156) (is := 220) (ic := 160) hx hb htr ctr_NSE_0 ctr_NSE_1 ctr_NSE_2 ctr_NSE_5 hown (by decide) (by decide) (hts _ (wg_t kw_1064)) (hts _ (wg_t kw_34)) (hX.2.2.2.2.2.1 18 ("LatticeKeys", 220, "no such keys of ML-DSA") rfl) (hat_NSE hts hX.2) hS.1 (hl.1.trans hml.symm) dK_verify_10 dK_verify_13 dK_verify_14 dK_verify_16 dK_verify_19 htab (Nat.le_of_ble_eq_true rfl) (Nat.le_of_ble_eq_true rfl) (Nat.le_of_ble_eq_true rfl) (Nat.le_of_ble_eq_true rfl) hlk (Nat.le_of_ble_eq_true rfl) (Nat.le_of_ble_eq_true rfl) List.mem_cons_self hS.2.2 (thr_st hX.2) (fun t hz9 hk9 => ⟨⟨((T, tl, al, pn), pl), ⟨⟨⟨(by show tl ≤ 16384; omega), (by show al ≤ 8192; omega), (by show pn ≤ 8; omega), hXT, hU⟩, trivial⟩, hO⟩, lc_P hP hk9, hD⟩, (lc_S hS hz9 hk9).F rfl⟩)
  | some q21, hq9 =>
    obtain ⟨s9, hs9, hk9⟩ := hq9 q21 rfl
    rcases hk9 with hk9 | hk9
    · match s9, hs9, hk9 with
      | 0, _, hk9 =>
        have kr21 : T q21 = some (17, 3) := hk9
        refine lv_astore_n (lv' := [(3, .ref q21), (0, .ref h0), (1, .int v), (2, .int v2)]) hx hb dK_verify_5 rfl hl (by decide) rfl (fun ls hl => ?_)
        refine lv_aload_n hx hb dK_verify_6 rfl (lv_at hl 0 rfl) ?_
        refine lv_ifnonnull (tgt := 20) hx hb dK_verify_7 (by decide) ?_
        refine lv_aload_n hx hb dK_verify_20 rfl (lv_at hl 1 rfl) ?_
        refine va_get (D := g.1) (ci := 0) (C := "LatticeKeys") (T := T_K) (N := 11) hx hb hts (wg_ft i_K) hown hK hP 0 rfl rfl 7 (by decide) (hts _ (wg_t kw_381)) (fun _ h9 => h9) rfl dK_verify_21 ?_
        refine lv_aload_n hx hb dK_verify_24 rfl (lv_at hl 0 rfl) ?_
        refine ty_get (ci := 13) (C := "LatticeKeys$KeyPair") (TT := T_KP) (N := 3) (kd := (17, 3)) hx hb hts (wg_ft i_KP) hown hK hO kr21 (nxg clo_nil kr21 rfl) hP (fun _ h9 => h9) rfl 0 (by decide) (hts _ (wg_t kw_746)) (fun _ h9 => h9) (cd := (1, 0, 3)) rfl dK_verify_25 (fun v21 hv21 => ?_)
        obtain rfl := (show v21 = .int (nI 3) from hv21)
        refine lv_iconst (v := nI 3) hx hb dK_verify_28 (by decide) ?_
        refine mi_isub hx hb dK_verify_29 (by omega) ?_
        refine mi_as (show nI (3 - 3) = nI 0 from rfl) ?_
        refine ty_aald51 hx hb hK hO k_kds (nxg clo_nil k_kds rfl) hP (by omega) dK_verify_30 (fun r22 kr22 => ?_)
        refine lv_astore (lv' := [(4, .ref r22), (3, .ref q21), (0, .ref h0), (1, .int v), (2, .int v2)]) hx hb dK_verify_31 hl (by decide) rfl (fun ls hl => ?_)
        refine lv_aload_n hx hb dK_verify_33 rfl (lv_at hl 2 rfl) ?_
        refine lv_aload hx hb dK_verify_34 (lv_at hl 0 rfl) ?_
        refine ty_get (ci := 2) (C := "LatticeKeys$DsaSet") (TT := T_DS) (N := 17) (kd := (43, 0)) hx hb hts (wg_ft i_DS) hown hK hO kr22 (nxg clo_nil kr22 rfl) hP (fun _ h9 => h9) rfl 16 (by decide) (hts _ (wg_t kw_337)) (fun _ h9 => h9) (cd := (1, 0, 2420)) rfl dK_verify_36 (fun v22 hv22 => ?_)
        obtain rfl := (show v22 = .int (nI 2420) from hv22)
        refine lv_iload_n hx hb dK_verify_39 rfl (lv_at hl 4 rfl) ?_
        refine mp_i (cx := [(h0, .inr (0, [.ref kt, .int (nI tl), .ref ka, .int (nI al), .ref kp, .int (nI pn), .ref kks, .ref kds, .ref ksp, .ref kkm, .ref kda]))]) (wr := []) hP hD hS hA [0] [] rfl rfl rfl (by decide) (va_runV (As := [.int (nI 2420), .int v2]) (rest := []) F (t_K_holdsContext l g _ T  pl hO hU  2420 v2 h0 kt ka kp kks kds ksp kkm kda tl al pn k_kt k_ka k_kp k_kks k_kds k_ksp k_kkm k_kda (by omega) (by omega)) (cwV 2 hts (wg_app (wg_c kw_1170 (wg_c kw_1172 (wg_c ks_33 (wg_c kw_1 wg_n)))) kw_1173) rfl rfl rfl (by decide +kernel) ⟨by decide, by decide⟩) (pp_V (en_ok g) (q0 := 0) hK hP hD hS hA hE [0] rfl rfl rfl rfl) rfl rfl hl.1 rfl (lv_room (Nat.le_of_ble_eq_true rfl)) dK_verify_40 ⟨Nat.le_of_ble_eq_true rfl, Nat.le_of_ble_eq_true rfl⟩) (fun r23 pl H locs hu22 hP hD hS => ?_)
        obtain ⟨hq22, hO⟩ := hu22
        have hP : va_P g.1 vcl ([(h0, .inr (0, [.ref kt, .int (nI tl), .ref ka, .int (nI al), .ref kp, .int (nI pn), .ref kks, .ref kds, .ref ksp, .ref kkm, .ref kda]))] ++ pl) _ := hP
        have hD : va_D _ ([(h0, .inr (0, [.ref kt, .int (nI tl), .ref ka, .int (nI al), .ref kp, .int (nI pn), .ref kks, .ref kds, .ref ksp, .ref kkm, .ref kda]))] ++ pl) := hD
        refine W.widen (k := 0) (n := 0) (by omega) (by omega) ?_
        rcases hq22 with hq22 | hq22
        · obtain rfl := hq22
          refine lv_if_ne (tgt := 56) hx hb dK_verify_43 (by decide) (fun h21 => absurd h21 (by decide)) (fun h21 => ?_)
          exact et_throw (own := "LatticeKeys") (cls := "java/lang/IllegalArgumentException") (text := "a context of another length, or a short tape") (names := ["java/lang/RuntimeException", "java/lang/Exception"]) (ik := 79) (is := 209) (ic := 83) hx hb htr ctr_IAE_0 ctr_IAE_1 ctr_IAE_2 ctr_IAE_5 hown (by decide) (by decide) (hts _ (wg_t kw_501)) (hts _ (wg_t kw_18)) (hX.2.2.2.2.2.1 16 ("LatticeKeys", 209, "a context of another length, or a short tape") rfl) (hat_IAE hts hX.2) hS.1 (hl.1.trans hml.symm) dK_verify_46 dK_verify_49 dK_verify_50 dK_verify_52 dK_verify_55 htab (Nat.le_of_ble_eq_true rfl) (Nat.le_of_ble_eq_true rfl) (Nat.le_of_ble_eq_true rfl) (Nat.le_of_ble_eq_true rfl) hlk (Nat.le_of_ble_eq_true rfl) (Nat.le_of_ble_eq_true rfl) (List.mem_cons_of_mem _ List.mem_cons_self) hS.2.2 (thr_st hX.2) (fun t hz9 hk9 => ⟨⟨((T, tl, al, pn), pl), ⟨⟨⟨(by show tl ≤ 16384; omega), (by show al ≤ 8192; omega), (by show pn ≤ 8; omega), hXT, hU⟩, trivial⟩, hO⟩, lc_P hP hk9, hD⟩, (lc_S hS hz9 hk9).F rfl⟩)
        · obtain ⟨rfl, z21, hz21, rfl, hz22⟩ := hq22
          refine lv_if_ne (tgt := 56) hx hb dK_verify_43 (by decide) (fun h22 => ?_) (fun h22 => absurd h22 (by decide))
          refine lv_aload_n hx hb dK_verify_56 rfl (lv_at hl 2 rfl) ?_
          refine va_get (D := g.1) (ci := 0) (C := "LatticeKeys") (T := T_K) (N := 11) hx hb hts (wg_ft i_K) hown hK hP 0 rfl rfl 10 (by decide) (hts _ (wg_t kw_384)) (fun _ h9 => h9) rfl dK_verify_57 ?_
          refine lv_aload hx hb dK_verify_60 (lv_at hl 0 rfl) ?_
          refine lv_aload_n hx hb dK_verify_62 rfl (lv_at hl 1 rfl) ?_
          refine ty_get (ci := 13) (C := "LatticeKeys$KeyPair") (TT := T_KP) (N := 3) (kd := (17, 3)) hx hb hts (wg_ft i_KP) hown hK hO kr21 (nxg clo_nil kr21 rfl) hP (fun _ h9 => h9) rfl 1 (by decide) (hts _ (wg_t kw_749)) (fun _ h9 => h9) (cd := (3, 1, 1312)) rfl dK_verify_63 (fun v23 hv23 => ?_)
          obtain ⟨r24, rfl, kr23⟩ := (show ∃ r : Nat, v23 = .ref r ∧ T r = some (1, 1312) from hv23)
          refine lv_aload_n hx hb dK_verify_66 rfl (lv_at hl 2 rfl) ?_
          refine va_get (D := g.1) (ci := 0) (C := "LatticeKeys") (T := T_K) (N := 11) hx hb hts (wg_ft i_K) hown hK hP 0 rfl rfl 0 (by decide) (hts _ (wg_t kw_374)) (fun _ h9 => h9) rfl dK_verify_67 ?_
          refine lv_aload_n hx hb dK_verify_70 rfl (lv_at hl 2 rfl) ?_
          refine va_get (D := g.1) (ci := 0) (C := "LatticeKeys") (T := T_K) (N := 11) hx hb hts (wg_ft i_K) hown hK hP 0 rfl rfl 1 (by decide) (hts _ (wg_t kw_375)) (fun _ h9 => h9) rfl dK_verify_71 ?_
          refine lv_iload_n hx hb dK_verify_74 rfl (lv_at hl 4 rfl) ?_
          refine mp_i (cx := []) (wr := [(h0, .inr (0, [.ref kt, .int (nI tl), .ref ka, .int (nI al), .ref kp, .int (nI pn), .ref kks, .ref kds, .ref ksp, .ref kkm, .ref kda]))]) hP hD hS hA [] [0] rfl rfl rfl (by decide) (va_runV (As := [.ref r22, .ref r24, .ref kt, .int (nI tl), .int (nI z21)]) (rest := []) F (t_DA_accepts_0 l g _ T [] pl hO hU clo_nil clo_nil clo_nil clo_nil kda r22 r24 kt 16384 tl (nI z21) k_kda kr22 kr23 k_kt (by omega) (by omega) (by omega)) (cwV 5 hts (wg_app (wg_c kw_1261 (wg_c kw_1262 (wg_c kw_1263 (wg_c kw_5 wg_n)))) kw_1264) rfl rfl rfl (by decide +kernel) ⟨by decide, by decide⟩) (pp_VT (en_ok g) (ci := 6) (kd := (15, 0)) hK hO k_kda (nxg clo_nil k_kda rfl) (fun _ h9 => ko1 h9) hP hD hS hA hE [] rfl rfl rfl) rfl rfl hl.1 rfl (lv_room (Nat.le_of_ble_eq_true rfl)) dK_verify_75 ⟨Nat.le_of_ble_eq_true rfl, Nat.le_of_ble_eq_true rfl⟩) (fun r25 pl H locs hu23 hP hD hS => ?_)
          obtain ⟨hq23, hO⟩ := hu23
          have hP : va_P g.1 vcl ([(h0, .inr (0, [.ref kt, .int (nI tl), .ref ka, .int (nI al), .ref kp, .int (nI pn), .ref kks, .ref kds, .ref ksp, .ref kkm, .ref kda]))] ++ pl) _ := hP
          have hD : va_D _ ([(h0, .inr (0, [.ref kt, .int (nI tl), .ref ka, .int (nI al), .ref kp, .int (nI pn), .ref kks, .ref kds, .ref ksp, .ref kkm, .ref kda]))] ++ pl) := hD
          refine W.widen (k := 0) (n := 0) (by omega) (by omega) ?_
          refine lv_istore (lv' := [(5, .int r25), (4, .ref r22), (3, .ref q21), (0, .ref h0), (1, .int v), (2, .int (nI z21))]) hx hb dK_verify_78 hl (by decide) rfl (fun ls hl => ?_)
          refine lv_aload_n hx hb dK_verify_80 rfl (lv_at hl 3 rfl) ?_
          refine lv_iconst (v := nI 0) hx hb dK_verify_81 (by decide) ?_
          refine va_put (D := g.1) (ci := 0) (v := .int (nI 0)) (ty := .int) (C := "LatticeKeys") (T := T_K) (N := 11) hx hb hts (wg_ft i_K) ty_K k_K n_K hown hK hP hD hS 0 rfl rfl 1 (by decide) (hts _ (wg_t kw_375)) (fun _ h9 => h9) rfl (by decide +kernel) rfl rfl (Nat.le_of_ble_eq_true rfl) dK_verify_82 (fun H locs hP hD hS => ?_)
          have hP : va_P g.1 vcl ([(h0, .inr (0, [.ref kt, .int (nI 0), .ref ka, .int (nI al), .ref kp, .int (nI pn), .ref kks, .ref kds, .ref ksp, .ref kkm, .ref kda]))] ++ pl) _ := hP
          have hD : va_D _ ([(h0, .inr (0, [.ref kt, .int (nI 0), .ref ka, .int (nI al), .ref kp, .int (nI pn), .ref kks, .ref kds, .ref ksp, .ref kkm, .ref kda]))] ++ pl) := hD
          refine lv_iload hx hb dK_verify_85 (lv_at hl 0 rfl) ?_
          refine et_ret ?_
          exact mp_zret hx hb hr hlk (nar_b hq23) hP hD hS ((T, 0, al, pn), pl) ⟨⟨⟨(by show 0 ≤ 16384; omega), (by show al ≤ 8192; omega), (by show pn ≤ 8; omega), hXT, hU⟩, trivial⟩, hO⟩ [0] rfl rfl rfl (by omega) (by omega) dK_verify_87
      | 1, _, hk9 =>
        have kr24 : T q21 = some (17, 4) := hk9
        refine lv_astore_n (lv' := [(3, .ref q21), (0, .ref h0), (1, .int v), (2, .int v2)]) hx hb dK_verify_5 rfl hl (by decide) rfl (fun ls hl => ?_)
        refine lv_aload_n hx hb dK_verify_6 rfl (lv_at hl 0 rfl) ?_
        refine lv_ifnonnull (tgt := 20) hx hb dK_verify_7 (by decide) ?_
        refine lv_aload_n hx hb dK_verify_20 rfl (lv_at hl 1 rfl) ?_
        refine va_get (D := g.1) (ci := 0) (C := "LatticeKeys") (T := T_K) (N := 11) hx hb hts (wg_ft i_K) hown hK hP 0 rfl rfl 7 (by decide) (hts _ (wg_t kw_381)) (fun _ h9 => h9) rfl dK_verify_21 ?_
        refine lv_aload_n hx hb dK_verify_24 rfl (lv_at hl 0 rfl) ?_
        refine ty_get (ci := 13) (C := "LatticeKeys$KeyPair") (TT := T_KP) (N := 3) (kd := (17, 4)) hx hb hts (wg_ft i_KP) hown hK hO kr24 (nxg clo_nil kr24 rfl) hP (fun _ h9 => h9) rfl 0 (by decide) (hts _ (wg_t kw_746)) (fun _ h9 => h9) (cd := (1, 0, 4)) rfl dK_verify_25 (fun v24 hv24 => ?_)
        obtain rfl := (show v24 = .int (nI 4) from hv24)
        refine lv_iconst (v := nI 3) hx hb dK_verify_28 (by decide) ?_
        refine mi_isub hx hb dK_verify_29 (by omega) ?_
        refine mi_as (show nI (4 - 3) = nI 1 from rfl) ?_
        refine ty_aald51 hx hb hK hO k_kds (nxg clo_nil k_kds rfl) hP (by omega) dK_verify_30 (fun r26 kr25 => ?_)
        refine lv_astore (lv' := [(4, .ref r26), (3, .ref q21), (0, .ref h0), (1, .int v), (2, .int v2)]) hx hb dK_verify_31 hl (by decide) rfl (fun ls hl => ?_)
        refine lv_aload_n hx hb dK_verify_33 rfl (lv_at hl 2 rfl) ?_
        refine lv_aload hx hb dK_verify_34 (lv_at hl 0 rfl) ?_
        refine ty_get (ci := 2) (C := "LatticeKeys$DsaSet") (TT := T_DS) (N := 17) (kd := (44, 0)) hx hb hts (wg_ft i_DS) hown hK hO kr25 (nxg clo_nil kr25 rfl) hP (fun _ h9 => h9) rfl 16 (by decide) (hts _ (wg_t kw_337)) (fun _ h9 => h9) (cd := (1, 0, 3309)) rfl dK_verify_36 (fun v25 hv25 => ?_)
        obtain rfl := (show v25 = .int (nI 3309) from hv25)
        refine lv_iload_n hx hb dK_verify_39 rfl (lv_at hl 4 rfl) ?_
        refine mp_i (cx := [(h0, .inr (0, [.ref kt, .int (nI tl), .ref ka, .int (nI al), .ref kp, .int (nI pn), .ref kks, .ref kds, .ref ksp, .ref kkm, .ref kda]))]) (wr := []) hP hD hS hA [0] [] rfl rfl rfl (by decide) (va_runV (As := [.int (nI 3309), .int v2]) (rest := []) F (t_K_holdsContext l g _ T  pl hO hU  3309 v2 h0 kt ka kp kks kds ksp kkm kda tl al pn k_kt k_ka k_kp k_kks k_kds k_ksp k_kkm k_kda (by omega) (by omega)) (cwV 2 hts (wg_app (wg_c kw_1170 (wg_c kw_1172 (wg_c ks_33 (wg_c kw_1 wg_n)))) kw_1173) rfl rfl rfl (by decide +kernel) ⟨by decide, by decide⟩) (pp_V (en_ok g) (q0 := 0) hK hP hD hS hA hE [0] rfl rfl rfl rfl) rfl rfl hl.1 rfl (lv_room (Nat.le_of_ble_eq_true rfl)) dK_verify_40 ⟨Nat.le_of_ble_eq_true rfl, Nat.le_of_ble_eq_true rfl⟩) (fun r27 pl H locs hu24 hP hD hS => ?_)
        obtain ⟨hq24, hO⟩ := hu24
        have hP : va_P g.1 vcl ([(h0, .inr (0, [.ref kt, .int (nI tl), .ref ka, .int (nI al), .ref kp, .int (nI pn), .ref kks, .ref kds, .ref ksp, .ref kkm, .ref kda]))] ++ pl) _ := hP
        have hD : va_D _ ([(h0, .inr (0, [.ref kt, .int (nI tl), .ref ka, .int (nI al), .ref kp, .int (nI pn), .ref kks, .ref kds, .ref ksp, .ref kkm, .ref kda]))] ++ pl) := hD
        refine W.widen (k := 0) (n := 0) (by omega) (by omega) ?_
        rcases hq24 with hq24 | hq24
        · obtain rfl := hq24
          refine lv_if_ne (tgt := 56) hx hb dK_verify_43 (by decide) (fun h23 => absurd h23 (by decide)) (fun h23 => ?_)
          exact et_throw (own := "LatticeKeys") (cls := "java/lang/IllegalArgumentException") (text := "a context of another length, or a short tape") (names := ["java/lang/RuntimeException", "java/lang/Exception"]) (ik := 79) (is := 209) (ic := 83) hx hb htr ctr_IAE_0 ctr_IAE_1 ctr_IAE_2 ctr_IAE_5 hown (by decide) (by decide) (hts _ (wg_t kw_501)) (hts _ (wg_t kw_18)) (hX.2.2.2.2.2.1 16 ("LatticeKeys", 209, "a context of another length, or a short tape") rfl) (hat_IAE hts hX.2) hS.1 (hl.1.trans hml.symm) dK_verify_46 dK_verify_49 dK_verify_50 dK_verify_52 dK_verify_55 htab (Nat.le_of_ble_eq_true rfl) (Nat.le_of_ble_eq_true rfl) (Nat.le_of_ble_eq_true rfl) (Nat.le_of_ble_eq_true rfl) hlk (Nat.le_of_ble_eq_true rfl) (Nat.le_of_ble_eq_true rfl) (List.mem_cons_of_mem _ List.mem_cons_self) hS.2.2 (thr_st hX.2) (fun t hz9 hk9 => ⟨⟨((T, tl, al, pn), pl), ⟨⟨⟨(by show tl ≤ 16384; omega), (by show al ≤ 8192; omega), (by show pn ≤ 8; omega), hXT, hU⟩, trivial⟩, hO⟩, lc_P hP hk9, hD⟩, (lc_S hS hz9 hk9).F rfl⟩)
        · obtain ⟨rfl, z22, hz23, rfl, hz24⟩ := hq24
          refine lv_if_ne (tgt := 56) hx hb dK_verify_43 (by decide) (fun h24 => ?_) (fun h24 => absurd h24 (by decide))
          refine lv_aload_n hx hb dK_verify_56 rfl (lv_at hl 2 rfl) ?_
          refine va_get (D := g.1) (ci := 0) (C := "LatticeKeys") (T := T_K) (N := 11) hx hb hts (wg_ft i_K) hown hK hP 0 rfl rfl 10 (by decide) (hts _ (wg_t kw_384)) (fun _ h9 => h9) rfl dK_verify_57 ?_
          refine lv_aload hx hb dK_verify_60 (lv_at hl 0 rfl) ?_
          refine lv_aload_n hx hb dK_verify_62 rfl (lv_at hl 1 rfl) ?_
          refine ty_get (ci := 13) (C := "LatticeKeys$KeyPair") (TT := T_KP) (N := 3) (kd := (17, 4)) hx hb hts (wg_ft i_KP) hown hK hO kr24 (nxg clo_nil kr24 rfl) hP (fun _ h9 => h9) rfl 1 (by decide) (hts _ (wg_t kw_749)) (fun _ h9 => h9) (cd := (3, 1, 1952)) rfl dK_verify_63 (fun v26 hv26 => ?_)
          obtain ⟨r28, rfl, kr26⟩ := (show ∃ r : Nat, v26 = .ref r ∧ T r = some (1, 1952) from hv26)
          refine lv_aload_n hx hb dK_verify_66 rfl (lv_at hl 2 rfl) ?_
          refine va_get (D := g.1) (ci := 0) (C := "LatticeKeys") (T := T_K) (N := 11) hx hb hts (wg_ft i_K) hown hK hP 0 rfl rfl 0 (by decide) (hts _ (wg_t kw_374)) (fun _ h9 => h9) rfl dK_verify_67 ?_
          refine lv_aload_n hx hb dK_verify_70 rfl (lv_at hl 2 rfl) ?_
          refine va_get (D := g.1) (ci := 0) (C := "LatticeKeys") (T := T_K) (N := 11) hx hb hts (wg_ft i_K) hown hK hP 0 rfl rfl 1 (by decide) (hts _ (wg_t kw_375)) (fun _ h9 => h9) rfl dK_verify_71 ?_
          refine lv_iload_n hx hb dK_verify_74 rfl (lv_at hl 4 rfl) ?_
          refine mp_i (cx := []) (wr := [(h0, .inr (0, [.ref kt, .int (nI tl), .ref ka, .int (nI al), .ref kp, .int (nI pn), .ref kks, .ref kds, .ref ksp, .ref kkm, .ref kda]))]) hP hD hS hA [] [0] rfl rfl rfl (by decide) (va_runV (As := [.ref r26, .ref r28, .ref kt, .int (nI tl), .int (nI z22)]) (rest := []) F (t_DA_accepts_1 l g _ T [] pl hO hU clo_nil clo_nil clo_nil clo_nil kda r26 r28 kt 16384 tl (nI z22) k_kda kr25 kr26 k_kt (by omega) (by omega) (by omega)) (cwV 5 hts (wg_app (wg_c kw_1261 (wg_c kw_1262 (wg_c kw_1263 (wg_c kw_5 wg_n)))) kw_1264) rfl rfl rfl (by decide +kernel) ⟨by decide, by decide⟩) (pp_VT (en_ok g) (ci := 6) (kd := (15, 0)) hK hO k_kda (nxg clo_nil k_kda rfl) (fun _ h9 => ko1 h9) hP hD hS hA hE [] rfl rfl rfl) rfl rfl hl.1 rfl (lv_room (Nat.le_of_ble_eq_true rfl)) dK_verify_75 ⟨Nat.le_of_ble_eq_true rfl, Nat.le_of_ble_eq_true rfl⟩) (fun r29 pl H locs hu25 hP hD hS => ?_)
          obtain ⟨hq25, hO⟩ := hu25
          have hP : va_P g.1 vcl ([(h0, .inr (0, [.ref kt, .int (nI tl), .ref ka, .int (nI al), .ref kp, .int (nI pn), .ref kks, .ref kds, .ref ksp, .ref kkm, .ref kda]))] ++ pl) _ := hP
          have hD : va_D _ ([(h0, .inr (0, [.ref kt, .int (nI tl), .ref ka, .int (nI al), .ref kp, .int (nI pn), .ref kks, .ref kds, .ref ksp, .ref kkm, .ref kda]))] ++ pl) := hD
          refine W.widen (k := 0) (n := 0) (by omega) (by omega) ?_
          refine lv_istore (lv' := [(5, .int r29), (4, .ref r26), (3, .ref q21), (0, .ref h0), (1, .int v), (2, .int (nI z22))]) hx hb dK_verify_78 hl (by decide) rfl (fun ls hl => ?_)
          refine lv_aload_n hx hb dK_verify_80 rfl (lv_at hl 3 rfl) ?_
          refine lv_iconst (v := nI 0) hx hb dK_verify_81 (by decide) ?_
          refine va_put (D := g.1) (ci := 0) (v := .int (nI 0)) (ty := .int) (C := "LatticeKeys") (T := T_K) (N := 11) hx hb hts (wg_ft i_K) ty_K k_K n_K hown hK hP hD hS 0 rfl rfl 1 (by decide) (hts _ (wg_t kw_375)) (fun _ h9 => h9) rfl (by decide +kernel) rfl rfl (Nat.le_of_ble_eq_true rfl) dK_verify_82 (fun H locs hP hD hS => ?_)
          have hP : va_P g.1 vcl ([(h0, .inr (0, [.ref kt, .int (nI 0), .ref ka, .int (nI al), .ref kp, .int (nI pn), .ref kks, .ref kds, .ref ksp, .ref kkm, .ref kda]))] ++ pl) _ := hP
          have hD : va_D _ ([(h0, .inr (0, [.ref kt, .int (nI 0), .ref ka, .int (nI al), .ref kp, .int (nI pn), .ref kks, .ref kds, .ref ksp, .ref kkm, .ref kda]))] ++ pl) := hD
          refine lv_iload hx hb dK_verify_85 (lv_at hl 0 rfl) ?_
          refine et_ret ?_
          exact mp_zret hx hb hr hlk (nar_b hq25) hP hD hS ((T, 0, al, pn), pl) ⟨⟨⟨(by show 0 ≤ 16384; omega), (by show al ≤ 8192; omega), (by show pn ≤ 8; omega), hXT, hU⟩, trivial⟩, hO⟩ [0] rfl rfl rfl (by omega) (by omega) dK_verify_87
      | 2, _, hk9 =>
        have kr27 : T q21 = some (17, 5) := hk9
        refine lv_astore_n (lv' := [(3, .ref q21), (0, .ref h0), (1, .int v), (2, .int v2)]) hx hb dK_verify_5 rfl hl (by decide) rfl (fun ls hl => ?_)
        refine lv_aload_n hx hb dK_verify_6 rfl (lv_at hl 0 rfl) ?_
        refine lv_ifnonnull (tgt := 20) hx hb dK_verify_7 (by decide) ?_
        refine lv_aload_n hx hb dK_verify_20 rfl (lv_at hl 1 rfl) ?_
        refine va_get (D := g.1) (ci := 0) (C := "LatticeKeys") (T := T_K) (N := 11) hx hb hts (wg_ft i_K) hown hK hP 0 rfl rfl 7 (by decide) (hts _ (wg_t kw_381)) (fun _ h9 => h9) rfl dK_verify_21 ?_
        refine lv_aload_n hx hb dK_verify_24 rfl (lv_at hl 0 rfl) ?_
        refine ty_get (ci := 13) (C := "LatticeKeys$KeyPair") (TT := T_KP) (N := 3) (kd := (17, 5)) hx hb hts (wg_ft i_KP) hown hK hO kr27 (nxg clo_nil kr27 rfl) hP (fun _ h9 => h9) rfl 0 (by decide) (hts _ (wg_t kw_746)) (fun _ h9 => h9) (cd := (1, 0, 5)) rfl dK_verify_25 (fun v27 hv27 => ?_)
        obtain rfl := (show v27 = .int (nI 5) from hv27)
        refine lv_iconst (v := nI 3) hx hb dK_verify_28 (by decide) ?_
        refine mi_isub hx hb dK_verify_29 (by omega) ?_
        refine mi_as (show nI (5 - 3) = nI 2 from rfl) ?_
        refine ty_aald51 hx hb hK hO k_kds (nxg clo_nil k_kds rfl) hP (by omega) dK_verify_30 (fun r30 kr28 => ?_)
        refine lv_astore (lv' := [(4, .ref r30), (3, .ref q21), (0, .ref h0), (1, .int v), (2, .int v2)]) hx hb dK_verify_31 hl (by decide) rfl (fun ls hl => ?_)
        refine lv_aload_n hx hb dK_verify_33 rfl (lv_at hl 2 rfl) ?_
        refine lv_aload hx hb dK_verify_34 (lv_at hl 0 rfl) ?_
        refine ty_get (ci := 2) (C := "LatticeKeys$DsaSet") (TT := T_DS) (N := 17) (kd := (45, 0)) hx hb hts (wg_ft i_DS) hown hK hO kr28 (nxg clo_nil kr28 rfl) hP (fun _ h9 => h9) rfl 16 (by decide) (hts _ (wg_t kw_337)) (fun _ h9 => h9) (cd := (1, 0, 4627)) rfl dK_verify_36 (fun v28 hv28 => ?_)
        obtain rfl := (show v28 = .int (nI 4627) from hv28)
        refine lv_iload_n hx hb dK_verify_39 rfl (lv_at hl 4 rfl) ?_
        refine mp_i (cx := [(h0, .inr (0, [.ref kt, .int (nI tl), .ref ka, .int (nI al), .ref kp, .int (nI pn), .ref kks, .ref kds, .ref ksp, .ref kkm, .ref kda]))]) (wr := []) hP hD hS hA [0] [] rfl rfl rfl (by decide) (va_runV (As := [.int (nI 4627), .int v2]) (rest := []) F (t_K_holdsContext l g _ T  pl hO hU  4627 v2 h0 kt ka kp kks kds ksp kkm kda tl al pn k_kt k_ka k_kp k_kks k_kds k_ksp k_kkm k_kda (by omega) (by omega)) (cwV 2 hts (wg_app (wg_c kw_1170 (wg_c kw_1172 (wg_c ks_33 (wg_c kw_1 wg_n)))) kw_1173) rfl rfl rfl (by decide +kernel) ⟨by decide, by decide⟩) (pp_V (en_ok g) (q0 := 0) hK hP hD hS hA hE [0] rfl rfl rfl rfl) rfl rfl hl.1 rfl (lv_room (Nat.le_of_ble_eq_true rfl)) dK_verify_40 ⟨Nat.le_of_ble_eq_true rfl, Nat.le_of_ble_eq_true rfl⟩) (fun r31 pl H locs hu26 hP hD hS => ?_)
        obtain ⟨hq26, hO⟩ := hu26
        have hP : va_P g.1 vcl ([(h0, .inr (0, [.ref kt, .int (nI tl), .ref ka, .int (nI al), .ref kp, .int (nI pn), .ref kks, .ref kds, .ref ksp, .ref kkm, .ref kda]))] ++ pl) _ := hP
        have hD : va_D _ ([(h0, .inr (0, [.ref kt, .int (nI tl), .ref ka, .int (nI al), .ref kp, .int (nI pn), .ref kks, .ref kds, .ref ksp, .ref kkm, .ref kda]))] ++ pl) := hD
        refine W.widen (k := 0) (n := 0) (by omega) (by omega) ?_
        rcases hq26 with hq26 | hq26
        · obtain rfl := hq26
          refine lv_if_ne (tgt := 56) hx hb dK_verify_43 (by decide) (fun h25 => absurd h25 (by decide)) (fun h25 => ?_)
          exact et_throw (own := "LatticeKeys") (cls := "java/lang/IllegalArgumentException") (text := "a context of another length, or a short tape") (names := ["java/lang/RuntimeException", "java/lang/Exception"]) (ik := 79) (is := 209) (ic := 83) hx hb htr ctr_IAE_0 ctr_IAE_1 ctr_IAE_2 ctr_IAE_5 hown (by decide) (by decide) (hts _ (wg_t kw_501)) (hts _ (wg_t kw_18)) (hX.2.2.2.2.2.1 16 ("LatticeKeys", 209, "a context of another length, or a short tape") rfl) (hat_IAE hts hX.2) hS.1 (hl.1.trans hml.symm) dK_verify_46 dK_verify_49 dK_verify_50 dK_verify_52 dK_verify_55 htab (Nat.le_of_ble_eq_true rfl) (Nat.le_of_ble_eq_true rfl) (Nat.le_of_ble_eq_true rfl) (Nat.le_of_ble_eq_true rfl) hlk (Nat.le_of_ble_eq_true rfl) (Nat.le_of_ble_eq_true rfl) (List.mem_cons_of_mem _ List.mem_cons_self) hS.2.2 (thr_st hX.2) (fun t hz9 hk9 => ⟨⟨((T, tl, al, pn), pl), ⟨⟨⟨(by show tl ≤ 16384; omega), (by show al ≤ 8192; omega), (by show pn ≤ 8; omega), hXT, hU⟩, trivial⟩, hO⟩, lc_P hP hk9, hD⟩, (lc_S hS hz9 hk9).F rfl⟩)
        · obtain ⟨rfl, z23, hz25, rfl, hz26⟩ := hq26
          refine lv_if_ne (tgt := 56) hx hb dK_verify_43 (by decide) (fun h26 => ?_) (fun h26 => absurd h26 (by decide))
          refine lv_aload_n hx hb dK_verify_56 rfl (lv_at hl 2 rfl) ?_
          refine va_get (D := g.1) (ci := 0) (C := "LatticeKeys") (T := T_K) (N := 11) hx hb hts (wg_ft i_K) hown hK hP 0 rfl rfl 10 (by decide) (hts _ (wg_t kw_384)) (fun _ h9 => h9) rfl dK_verify_57 ?_
          refine lv_aload hx hb dK_verify_60 (lv_at hl 0 rfl) ?_
          refine lv_aload_n hx hb dK_verify_62 rfl (lv_at hl 1 rfl) ?_
          refine ty_get (ci := 13) (C := "LatticeKeys$KeyPair") (TT := T_KP) (N := 3) (kd := (17, 5)) hx hb hts (wg_ft i_KP) hown hK hO kr27 (nxg clo_nil kr27 rfl) hP (fun _ h9 => h9) rfl 1 (by decide) (hts _ (wg_t kw_749)) (fun _ h9 => h9) (cd := (3, 1, 2592)) rfl dK_verify_63 (fun v29 hv29 => ?_)
          obtain ⟨r32, rfl, kr29⟩ := (show ∃ r : Nat, v29 = .ref r ∧ T r = some (1, 2592) from hv29)
          refine lv_aload_n hx hb dK_verify_66 rfl (lv_at hl 2 rfl) ?_
          refine va_get (D := g.1) (ci := 0) (C := "LatticeKeys") (T := T_K) (N := 11) hx hb hts (wg_ft i_K) hown hK hP 0 rfl rfl 0 (by decide) (hts _ (wg_t kw_374)) (fun _ h9 => h9) rfl dK_verify_67 ?_
          refine lv_aload_n hx hb dK_verify_70 rfl (lv_at hl 2 rfl) ?_
          refine va_get (D := g.1) (ci := 0) (C := "LatticeKeys") (T := T_K) (N := 11) hx hb hts (wg_ft i_K) hown hK hP 0 rfl rfl 1 (by decide) (hts _ (wg_t kw_375)) (fun _ h9 => h9) rfl dK_verify_71 ?_
          refine lv_iload_n hx hb dK_verify_74 rfl (lv_at hl 4 rfl) ?_
          refine mp_i (cx := []) (wr := [(h0, .inr (0, [.ref kt, .int (nI tl), .ref ka, .int (nI al), .ref kp, .int (nI pn), .ref kks, .ref kds, .ref ksp, .ref kkm, .ref kda]))]) hP hD hS hA [] [0] rfl rfl rfl (by decide) (va_runV (As := [.ref r30, .ref r32, .ref kt, .int (nI tl), .int (nI z23)]) (rest := []) F (t_DA_accepts_2 l g _ T [] pl hO hU clo_nil clo_nil clo_nil clo_nil kda r30 r32 kt 16384 tl (nI z23) k_kda kr28 kr29 k_kt (by omega) (by omega) (by omega)) (cwV 5 hts (wg_app (wg_c kw_1261 (wg_c kw_1262 (wg_c kw_1263 (wg_c kw_5 wg_n)))) kw_1264) rfl rfl rfl (by decide +kernel) ⟨by decide, by decide⟩) (pp_VT (en_ok g) (ci := 6) (kd := (15, 0)) hK hO k_kda (nxg clo_nil k_kda rfl) (fun _ h9 => ko1 h9) hP hD hS hA hE [] rfl rfl rfl) rfl rfl hl.1 rfl (lv_room (Nat.le_of_ble_eq_true rfl)) dK_verify_75 ⟨Nat.le_of_ble_eq_true rfl, Nat.le_of_ble_eq_true rfl⟩) (fun r33 pl H locs hu27 hP hD hS => ?_)
          obtain ⟨hq27, hO⟩ := hu27
          have hP : va_P g.1 vcl ([(h0, .inr (0, [.ref kt, .int (nI tl), .ref ka, .int (nI al), .ref kp, .int (nI pn), .ref kks, .ref kds, .ref ksp, .ref kkm, .ref kda]))] ++ pl) _ := hP
          have hD : va_D _ ([(h0, .inr (0, [.ref kt, .int (nI tl), .ref ka, .int (nI al), .ref kp, .int (nI pn), .ref kks, .ref kds, .ref ksp, .ref kkm, .ref kda]))] ++ pl) := hD
          refine W.widen (k := 0) (n := 0) (by omega) (by omega) ?_
          refine lv_istore (lv' := [(5, .int r33), (4, .ref r30), (3, .ref q21), (0, .ref h0), (1, .int v), (2, .int (nI z23))]) hx hb dK_verify_78 hl (by decide) rfl (fun ls hl => ?_)
          refine lv_aload_n hx hb dK_verify_80 rfl (lv_at hl 3 rfl) ?_
          refine lv_iconst (v := nI 0) hx hb dK_verify_81 (by decide) ?_
          refine va_put (D := g.1) (ci := 0) (v := .int (nI 0)) (ty := .int) (C := "LatticeKeys") (T := T_K) (N := 11) hx hb hts (wg_ft i_K) ty_K k_K n_K hown hK hP hD hS 0 rfl rfl 1 (by decide) (hts _ (wg_t kw_375)) (fun _ h9 => h9) rfl (by decide +kernel) rfl rfl (Nat.le_of_ble_eq_true rfl) dK_verify_82 (fun H locs hP hD hS => ?_)
          have hP : va_P g.1 vcl ([(h0, .inr (0, [.ref kt, .int (nI 0), .ref ka, .int (nI al), .ref kp, .int (nI pn), .ref kks, .ref kds, .ref ksp, .ref kkm, .ref kda]))] ++ pl) _ := hP
          have hD : va_D _ ([(h0, .inr (0, [.ref kt, .int (nI 0), .ref ka, .int (nI al), .ref kp, .int (nI pn), .ref kks, .ref kds, .ref ksp, .ref kkm, .ref kda]))] ++ pl) := hD
          refine lv_iload hx hb dK_verify_85 (lv_at hl 0 rfl) ?_
          refine et_ret ?_
          exact mp_zret hx hb hr hlk (nar_b hq27) hP hD hS ((T, 0, al, pn), pl) ⟨⟨⟨(by show 0 ≤ 16384; omega), (by show al ≤ 8192; omega), (by show pn ≤ 8; omega), hXT, hU⟩, trivial⟩, hO⟩ [0] rfl rfl rfl (by omega) (by omega) dK_verify_87
      | _ + 3, h9, _ => exact absurd h9 (by omega)
    · match s9, hs9, hk9 with
      | 0, _, hk9 =>
        have kr30 : T q21 = some (16, 3) := hk9
        refine lv_astore_n (lv' := [(3, .ref q21), (0, .ref h0), (1, .int v), (2, .int v2)]) hx hb dK_verify_5 rfl hl (by decide) rfl (fun ls hl => ?_)
        refine lv_aload_n hx hb dK_verify_6 rfl (lv_at hl 0 rfl) ?_
        refine lv_ifnonnull (tgt := 20) hx hb dK_verify_7 (by decide) ?_
        refine lv_aload_n hx hb dK_verify_20 rfl (lv_at hl 1 rfl) ?_
        refine va_get (D := g.1) (ci := 0) (C := "LatticeKeys") (T := T_K) (N := 11) hx hb hts (wg_ft i_K) hown hK hP 0 rfl rfl 7 (by decide) (hts _ (wg_t kw_381)) (fun _ h9 => h9) rfl dK_verify_21 ?_
        refine lv_aload_n hx hb dK_verify_24 rfl (lv_at hl 0 rfl) ?_
        refine ty_get (ci := 13) (C := "LatticeKeys$KeyPair") (TT := T_KP) (N := 3) (kd := (16, 3)) hx hb hts (wg_ft i_KP) hown hK hO kr30 (nxg clo_nil kr30 rfl) hP (fun _ h9 => h9) rfl 0 (by decide) (hts _ (wg_t kw_746)) (fun _ h9 => h9) (cd := (1, 0, 3)) rfl dK_verify_25 (fun v30 hv30 => ?_)
        obtain rfl := (show v30 = .int (nI 3) from hv30)
        refine lv_iconst (v := nI 3) hx hb dK_verify_28 (by decide) ?_
        refine mi_isub hx hb dK_verify_29 (by omega) ?_
        refine mi_as (show nI (3 - 3) = nI 0 from rfl) ?_
        refine ty_aald51 hx hb hK hO k_kds (nxg clo_nil k_kds rfl) hP (by omega) dK_verify_30 (fun r34 kr31 => ?_)
        refine lv_astore (lv' := [(4, .ref r34), (3, .ref q21), (0, .ref h0), (1, .int v), (2, .int v2)]) hx hb dK_verify_31 hl (by decide) rfl (fun ls hl => ?_)
        refine lv_aload_n hx hb dK_verify_33 rfl (lv_at hl 2 rfl) ?_
        refine lv_aload hx hb dK_verify_34 (lv_at hl 0 rfl) ?_
        refine ty_get (ci := 2) (C := "LatticeKeys$DsaSet") (TT := T_DS) (N := 17) (kd := (43, 0)) hx hb hts (wg_ft i_DS) hown hK hO kr31 (nxg clo_nil kr31 rfl) hP (fun _ h9 => h9) rfl 16 (by decide) (hts _ (wg_t kw_337)) (fun _ h9 => h9) (cd := (1, 0, 2420)) rfl dK_verify_36 (fun v31 hv31 => ?_)
        obtain rfl := (show v31 = .int (nI 2420) from hv31)
        refine lv_iload_n hx hb dK_verify_39 rfl (lv_at hl 4 rfl) ?_
        refine mp_i (cx := [(h0, .inr (0, [.ref kt, .int (nI tl), .ref ka, .int (nI al), .ref kp, .int (nI pn), .ref kks, .ref kds, .ref ksp, .ref kkm, .ref kda]))]) (wr := []) hP hD hS hA [0] [] rfl rfl rfl (by decide) (va_runV (As := [.int (nI 2420), .int v2]) (rest := []) F (t_K_holdsContext l g _ T  pl hO hU  2420 v2 h0 kt ka kp kks kds ksp kkm kda tl al pn k_kt k_ka k_kp k_kks k_kds k_ksp k_kkm k_kda (by omega) (by omega)) (cwV 2 hts (wg_app (wg_c kw_1170 (wg_c kw_1172 (wg_c ks_33 (wg_c kw_1 wg_n)))) kw_1173) rfl rfl rfl (by decide +kernel) ⟨by decide, by decide⟩) (pp_V (en_ok g) (q0 := 0) hK hP hD hS hA hE [0] rfl rfl rfl rfl) rfl rfl hl.1 rfl (lv_room (Nat.le_of_ble_eq_true rfl)) dK_verify_40 ⟨Nat.le_of_ble_eq_true rfl, Nat.le_of_ble_eq_true rfl⟩) (fun r35 pl H locs hu28 hP hD hS => ?_)
        obtain ⟨hq28, hO⟩ := hu28
        have hP : va_P g.1 vcl ([(h0, .inr (0, [.ref kt, .int (nI tl), .ref ka, .int (nI al), .ref kp, .int (nI pn), .ref kks, .ref kds, .ref ksp, .ref kkm, .ref kda]))] ++ pl) _ := hP
        have hD : va_D _ ([(h0, .inr (0, [.ref kt, .int (nI tl), .ref ka, .int (nI al), .ref kp, .int (nI pn), .ref kks, .ref kds, .ref ksp, .ref kkm, .ref kda]))] ++ pl) := hD
        refine W.widen (k := 0) (n := 0) (by omega) (by omega) ?_
        rcases hq28 with hq28 | hq28
        · obtain rfl := hq28
          refine lv_if_ne (tgt := 56) hx hb dK_verify_43 (by decide) (fun h27 => absurd h27 (by decide)) (fun h27 => ?_)
          exact et_throw (own := "LatticeKeys") (cls := "java/lang/IllegalArgumentException") (text := "a context of another length, or a short tape") (names := ["java/lang/RuntimeException", "java/lang/Exception"]) (ik := 79) (is := 209) (ic := 83) hx hb htr ctr_IAE_0 ctr_IAE_1 ctr_IAE_2 ctr_IAE_5 hown (by decide) (by decide) (hts _ (wg_t kw_501)) (hts _ (wg_t kw_18)) (hX.2.2.2.2.2.1 16 ("LatticeKeys", 209, "a context of another length, or a short tape") rfl) (hat_IAE hts hX.2) hS.1 (hl.1.trans hml.symm) dK_verify_46 dK_verify_49 dK_verify_50 dK_verify_52 dK_verify_55 htab (Nat.le_of_ble_eq_true rfl) (Nat.le_of_ble_eq_true rfl) (Nat.le_of_ble_eq_true rfl) (Nat.le_of_ble_eq_true rfl) hlk (Nat.le_of_ble_eq_true rfl) (Nat.le_of_ble_eq_true rfl) (List.mem_cons_of_mem _ List.mem_cons_self) hS.2.2 (thr_st hX.2) (fun t hz9 hk9 => ⟨⟨((T, tl, al, pn), pl), ⟨⟨⟨(by show tl ≤ 16384; omega), (by show al ≤ 8192; omega), (by show pn ≤ 8; omega), hXT, hU⟩, trivial⟩, hO⟩, lc_P hP hk9, hD⟩, (lc_S hS hz9 hk9).F rfl⟩)
        · obtain ⟨rfl, z24, hz27, rfl, hz28⟩ := hq28
          refine lv_if_ne (tgt := 56) hx hb dK_verify_43 (by decide) (fun h28 => ?_) (fun h28 => absurd h28 (by decide))
          refine lv_aload_n hx hb dK_verify_56 rfl (lv_at hl 2 rfl) ?_
          refine va_get (D := g.1) (ci := 0) (C := "LatticeKeys") (T := T_K) (N := 11) hx hb hts (wg_ft i_K) hown hK hP 0 rfl rfl 10 (by decide) (hts _ (wg_t kw_384)) (fun _ h9 => h9) rfl dK_verify_57 ?_
          refine lv_aload hx hb dK_verify_60 (lv_at hl 0 rfl) ?_
          refine lv_aload_n hx hb dK_verify_62 rfl (lv_at hl 1 rfl) ?_
          refine ty_get (ci := 13) (C := "LatticeKeys$KeyPair") (TT := T_KP) (N := 3) (kd := (16, 3)) hx hb hts (wg_ft i_KP) hown hK hO kr30 (nxg clo_nil kr30 rfl) hP (fun _ h9 => h9) rfl 1 (by decide) (hts _ (wg_t kw_749)) (fun _ h9 => h9) (cd := (3, 1, 1312)) rfl dK_verify_63 (fun v32 hv32 => ?_)
          obtain ⟨r36, rfl, kr32⟩ := (show ∃ r : Nat, v32 = .ref r ∧ T r = some (1, 1312) from hv32)
          refine lv_aload_n hx hb dK_verify_66 rfl (lv_at hl 2 rfl) ?_
          refine va_get (D := g.1) (ci := 0) (C := "LatticeKeys") (T := T_K) (N := 11) hx hb hts (wg_ft i_K) hown hK hP 0 rfl rfl 0 (by decide) (hts _ (wg_t kw_374)) (fun _ h9 => h9) rfl dK_verify_67 ?_
          refine lv_aload_n hx hb dK_verify_70 rfl (lv_at hl 2 rfl) ?_
          refine va_get (D := g.1) (ci := 0) (C := "LatticeKeys") (T := T_K) (N := 11) hx hb hts (wg_ft i_K) hown hK hP 0 rfl rfl 1 (by decide) (hts _ (wg_t kw_375)) (fun _ h9 => h9) rfl dK_verify_71 ?_
          refine lv_iload_n hx hb dK_verify_74 rfl (lv_at hl 4 rfl) ?_
          refine mp_i (cx := []) (wr := [(h0, .inr (0, [.ref kt, .int (nI tl), .ref ka, .int (nI al), .ref kp, .int (nI pn), .ref kks, .ref kds, .ref ksp, .ref kkm, .ref kda]))]) hP hD hS hA [] [0] rfl rfl rfl (by decide) (va_runV (As := [.ref r34, .ref r36, .ref kt, .int (nI tl), .int (nI z24)]) (rest := []) F (t_DA_accepts_0 l g _ T [] pl hO hU clo_nil clo_nil clo_nil clo_nil kda r34 r36 kt 16384 tl (nI z24) k_kda kr31 kr32 k_kt (by omega) (by omega) (by omega)) (cwV 5 hts (wg_app (wg_c kw_1261 (wg_c kw_1262 (wg_c kw_1263 (wg_c kw_5 wg_n)))) kw_1264) rfl rfl rfl (by decide +kernel) ⟨by decide, by decide⟩) (pp_VT (en_ok g) (ci := 6) (kd := (15, 0)) hK hO k_kda (nxg clo_nil k_kda rfl) (fun _ h9 => ko1 h9) hP hD hS hA hE [] rfl rfl rfl) rfl rfl hl.1 rfl (lv_room (Nat.le_of_ble_eq_true rfl)) dK_verify_75 ⟨Nat.le_of_ble_eq_true rfl, Nat.le_of_ble_eq_true rfl⟩) (fun r37 pl H locs hu29 hP hD hS => ?_)
          obtain ⟨hq29, hO⟩ := hu29
          have hP : va_P g.1 vcl ([(h0, .inr (0, [.ref kt, .int (nI tl), .ref ka, .int (nI al), .ref kp, .int (nI pn), .ref kks, .ref kds, .ref ksp, .ref kkm, .ref kda]))] ++ pl) _ := hP
          have hD : va_D _ ([(h0, .inr (0, [.ref kt, .int (nI tl), .ref ka, .int (nI al), .ref kp, .int (nI pn), .ref kks, .ref kds, .ref ksp, .ref kkm, .ref kda]))] ++ pl) := hD
          refine W.widen (k := 0) (n := 0) (by omega) (by omega) ?_
          refine lv_istore (lv' := [(5, .int r37), (4, .ref r34), (3, .ref q21), (0, .ref h0), (1, .int v), (2, .int (nI z24))]) hx hb dK_verify_78 hl (by decide) rfl (fun ls hl => ?_)
          refine lv_aload_n hx hb dK_verify_80 rfl (lv_at hl 3 rfl) ?_
          refine lv_iconst (v := nI 0) hx hb dK_verify_81 (by decide) ?_
          refine va_put (D := g.1) (ci := 0) (v := .int (nI 0)) (ty := .int) (C := "LatticeKeys") (T := T_K) (N := 11) hx hb hts (wg_ft i_K) ty_K k_K n_K hown hK hP hD hS 0 rfl rfl 1 (by decide) (hts _ (wg_t kw_375)) (fun _ h9 => h9) rfl (by decide +kernel) rfl rfl (Nat.le_of_ble_eq_true rfl) dK_verify_82 (fun H locs hP hD hS => ?_)
          have hP : va_P g.1 vcl ([(h0, .inr (0, [.ref kt, .int (nI 0), .ref ka, .int (nI al), .ref kp, .int (nI pn), .ref kks, .ref kds, .ref ksp, .ref kkm, .ref kda]))] ++ pl) _ := hP
          have hD : va_D _ ([(h0, .inr (0, [.ref kt, .int (nI 0), .ref ka, .int (nI al), .ref kp, .int (nI pn), .ref kks, .ref kds, .ref ksp, .ref kkm, .ref kda]))] ++ pl) := hD
          refine lv_iload hx hb dK_verify_85 (lv_at hl 0 rfl) ?_
          refine et_ret ?_
          exact mp_zret hx hb hr hlk (nar_b hq29) hP hD hS ((T, 0, al, pn), pl) ⟨⟨⟨(by show 0 ≤ 16384; omega), (by show al ≤ 8192; omega), (by show pn ≤ 8; omega), hXT, hU⟩, trivial⟩, hO⟩ [0] rfl rfl rfl (by omega) (by omega) dK_verify_87
      | 1, _, hk9 =>
        have kr33 : T q21 = some (16, 4) := hk9
        refine lv_astore_n (lv' := [(3, .ref q21), (0, .ref h0), (1, .int v), (2, .int v2)]) hx hb dK_verify_5 rfl hl (by decide) rfl (fun ls hl => ?_)
        refine lv_aload_n hx hb dK_verify_6 rfl (lv_at hl 0 rfl) ?_
        refine lv_ifnonnull (tgt := 20) hx hb dK_verify_7 (by decide) ?_
        refine lv_aload_n hx hb dK_verify_20 rfl (lv_at hl 1 rfl) ?_
        refine va_get (D := g.1) (ci := 0) (C := "LatticeKeys") (T := T_K) (N := 11) hx hb hts (wg_ft i_K) hown hK hP 0 rfl rfl 7 (by decide) (hts _ (wg_t kw_381)) (fun _ h9 => h9) rfl dK_verify_21 ?_
        refine lv_aload_n hx hb dK_verify_24 rfl (lv_at hl 0 rfl) ?_
        refine ty_get (ci := 13) (C := "LatticeKeys$KeyPair") (TT := T_KP) (N := 3) (kd := (16, 4)) hx hb hts (wg_ft i_KP) hown hK hO kr33 (nxg clo_nil kr33 rfl) hP (fun _ h9 => h9) rfl 0 (by decide) (hts _ (wg_t kw_746)) (fun _ h9 => h9) (cd := (1, 0, 4)) rfl dK_verify_25 (fun v33 hv33 => ?_)
        obtain rfl := (show v33 = .int (nI 4) from hv33)
        refine lv_iconst (v := nI 3) hx hb dK_verify_28 (by decide) ?_
        refine mi_isub hx hb dK_verify_29 (by omega) ?_
        refine mi_as (show nI (4 - 3) = nI 1 from rfl) ?_
        refine ty_aald51 hx hb hK hO k_kds (nxg clo_nil k_kds rfl) hP (by omega) dK_verify_30 (fun r38 kr34 => ?_)
        refine lv_astore (lv' := [(4, .ref r38), (3, .ref q21), (0, .ref h0), (1, .int v), (2, .int v2)]) hx hb dK_verify_31 hl (by decide) rfl (fun ls hl => ?_)
        refine lv_aload_n hx hb dK_verify_33 rfl (lv_at hl 2 rfl) ?_
        refine lv_aload hx hb dK_verify_34 (lv_at hl 0 rfl) ?_
        refine ty_get (ci := 2) (C := "LatticeKeys$DsaSet") (TT := T_DS) (N := 17) (kd := (44, 0)) hx hb hts (wg_ft i_DS) hown hK hO kr34 (nxg clo_nil kr34 rfl) hP (fun _ h9 => h9) rfl 16 (by decide) (hts _ (wg_t kw_337)) (fun _ h9 => h9) (cd := (1, 0, 3309)) rfl dK_verify_36 (fun v34 hv34 => ?_)
        obtain rfl := (show v34 = .int (nI 3309) from hv34)
        refine lv_iload_n hx hb dK_verify_39 rfl (lv_at hl 4 rfl) ?_
        refine mp_i (cx := [(h0, .inr (0, [.ref kt, .int (nI tl), .ref ka, .int (nI al), .ref kp, .int (nI pn), .ref kks, .ref kds, .ref ksp, .ref kkm, .ref kda]))]) (wr := []) hP hD hS hA [0] [] rfl rfl rfl (by decide) (va_runV (As := [.int (nI 3309), .int v2]) (rest := []) F (t_K_holdsContext l g _ T  pl hO hU  3309 v2 h0 kt ka kp kks kds ksp kkm kda tl al pn k_kt k_ka k_kp k_kks k_kds k_ksp k_kkm k_kda (by omega) (by omega)) (cwV 2 hts (wg_app (wg_c kw_1170 (wg_c kw_1172 (wg_c ks_33 (wg_c kw_1 wg_n)))) kw_1173) rfl rfl rfl (by decide +kernel) ⟨by decide, by decide⟩) (pp_V (en_ok g) (q0 := 0) hK hP hD hS hA hE [0] rfl rfl rfl rfl) rfl rfl hl.1 rfl (lv_room (Nat.le_of_ble_eq_true rfl)) dK_verify_40 ⟨Nat.le_of_ble_eq_true rfl, Nat.le_of_ble_eq_true rfl⟩) (fun r39 pl H locs hu30 hP hD hS => ?_)
        obtain ⟨hq30, hO⟩ := hu30
        have hP : va_P g.1 vcl ([(h0, .inr (0, [.ref kt, .int (nI tl), .ref ka, .int (nI al), .ref kp, .int (nI pn), .ref kks, .ref kds, .ref ksp, .ref kkm, .ref kda]))] ++ pl) _ := hP
        have hD : va_D _ ([(h0, .inr (0, [.ref kt, .int (nI tl), .ref ka, .int (nI al), .ref kp, .int (nI pn), .ref kks, .ref kds, .ref ksp, .ref kkm, .ref kda]))] ++ pl) := hD
        refine W.widen (k := 0) (n := 0) (by omega) (by omega) ?_
        rcases hq30 with hq30 | hq30
        · obtain rfl := hq30
          refine lv_if_ne (tgt := 56) hx hb dK_verify_43 (by decide) (fun h29 => absurd h29 (by decide)) (fun h29 => ?_)
          exact et_throw (own := "LatticeKeys") (cls := "java/lang/IllegalArgumentException") (text := "a context of another length, or a short tape") (names := ["java/lang/RuntimeException", "java/lang/Exception"]) (ik := 79) (is := 209) (ic := 83) hx hb htr ctr_IAE_0 ctr_IAE_1 ctr_IAE_2 ctr_IAE_5 hown (by decide) (by decide) (hts _ (wg_t kw_501)) (hts _ (wg_t kw_18)) (hX.2.2.2.2.2.1 16 ("LatticeKeys", 209, "a context of another length, or a short tape") rfl) (hat_IAE hts hX.2) hS.1 (hl.1.trans hml.symm) dK_verify_46 dK_verify_49 dK_verify_50 dK_verify_52 dK_verify_55 htab (Nat.le_of_ble_eq_true rfl) (Nat.le_of_ble_eq_true rfl) (Nat.le_of_ble_eq_true rfl) (Nat.le_of_ble_eq_true rfl) hlk (Nat.le_of_ble_eq_true rfl) (Nat.le_of_ble_eq_true rfl) (List.mem_cons_of_mem _ List.mem_cons_self) hS.2.2 (thr_st hX.2) (fun t hz9 hk9 => ⟨⟨((T, tl, al, pn), pl), ⟨⟨⟨(by show tl ≤ 16384; omega), (by show al ≤ 8192; omega), (by show pn ≤ 8; omega), hXT, hU⟩, trivial⟩, hO⟩, lc_P hP hk9, hD⟩, (lc_S hS hz9 hk9).F rfl⟩)
        · obtain ⟨rfl, z25, hz29, rfl, hz30⟩ := hq30
          refine lv_if_ne (tgt := 56) hx hb dK_verify_43 (by decide) (fun h30 => ?_) (fun h30 => absurd h30 (by decide))
          refine lv_aload_n hx hb dK_verify_56 rfl (lv_at hl 2 rfl) ?_
          refine va_get (D := g.1) (ci := 0) (C := "LatticeKeys") (T := T_K) (N := 11) hx hb hts (wg_ft i_K) hown hK hP 0 rfl rfl 10 (by decide) (hts _ (wg_t kw_384)) (fun _ h9 => h9) rfl dK_verify_57 ?_
          refine lv_aload hx hb dK_verify_60 (lv_at hl 0 rfl) ?_
          refine lv_aload_n hx hb dK_verify_62 rfl (lv_at hl 1 rfl) ?_
          refine ty_get (ci := 13) (C := "LatticeKeys$KeyPair") (TT := T_KP) (N := 3) (kd := (16, 4)) hx hb hts (wg_ft i_KP) hown hK hO kr33 (nxg clo_nil kr33 rfl) hP (fun _ h9 => h9) rfl 1 (by decide) (hts _ (wg_t kw_749)) (fun _ h9 => h9) (cd := (3, 1, 1952)) rfl dK_verify_63 (fun v35 hv35 => ?_)
          obtain ⟨r40, rfl, kr35⟩ := (show ∃ r : Nat, v35 = .ref r ∧ T r = some (1, 1952) from hv35)
          refine lv_aload_n hx hb dK_verify_66 rfl (lv_at hl 2 rfl) ?_
          refine va_get (D := g.1) (ci := 0) (C := "LatticeKeys") (T := T_K) (N := 11) hx hb hts (wg_ft i_K) hown hK hP 0 rfl rfl 0 (by decide) (hts _ (wg_t kw_374)) (fun _ h9 => h9) rfl dK_verify_67 ?_
          refine lv_aload_n hx hb dK_verify_70 rfl (lv_at hl 2 rfl) ?_
          refine va_get (D := g.1) (ci := 0) (C := "LatticeKeys") (T := T_K) (N := 11) hx hb hts (wg_ft i_K) hown hK hP 0 rfl rfl 1 (by decide) (hts _ (wg_t kw_375)) (fun _ h9 => h9) rfl dK_verify_71 ?_
          refine lv_iload_n hx hb dK_verify_74 rfl (lv_at hl 4 rfl) ?_
          refine mp_i (cx := []) (wr := [(h0, .inr (0, [.ref kt, .int (nI tl), .ref ka, .int (nI al), .ref kp, .int (nI pn), .ref kks, .ref kds, .ref ksp, .ref kkm, .ref kda]))]) hP hD hS hA [] [0] rfl rfl rfl (by decide) (va_runV (As := [.ref r38, .ref r40, .ref kt, .int (nI tl), .int (nI z25)]) (rest := []) F (t_DA_accepts_1 l g _ T [] pl hO hU clo_nil clo_nil clo_nil clo_nil kda r38 r40 kt 16384 tl (nI z25) k_kda kr34 kr35 k_kt (by omega) (by omega) (by omega)) (cwV 5 hts (wg_app (wg_c kw_1261 (wg_c kw_1262 (wg_c kw_1263 (wg_c kw_5 wg_n)))) kw_1264) rfl rfl rfl (by decide +kernel) ⟨by decide, by decide⟩) (pp_VT (en_ok g) (ci := 6) (kd := (15, 0)) hK hO k_kda (nxg clo_nil k_kda rfl) (fun _ h9 => ko1 h9) hP hD hS hA hE [] rfl rfl rfl) rfl rfl hl.1 rfl (lv_room (Nat.le_of_ble_eq_true rfl)) dK_verify_75 ⟨Nat.le_of_ble_eq_true rfl, Nat.le_of_ble_eq_true rfl⟩) (fun r41 pl H locs hu31 hP hD hS => ?_)
          obtain ⟨hq31, hO⟩ := hu31
          have hP : va_P g.1 vcl ([(h0, .inr (0, [.ref kt, .int (nI tl), .ref ka, .int (nI al), .ref kp, .int (nI pn), .ref kks, .ref kds, .ref ksp, .ref kkm, .ref kda]))] ++ pl) _ := hP
          have hD : va_D _ ([(h0, .inr (0, [.ref kt, .int (nI tl), .ref ka, .int (nI al), .ref kp, .int (nI pn), .ref kks, .ref kds, .ref ksp, .ref kkm, .ref kda]))] ++ pl) := hD
          refine W.widen (k := 0) (n := 0) (by omega) (by omega) ?_
          refine lv_istore (lv' := [(5, .int r41), (4, .ref r38), (3, .ref q21), (0, .ref h0), (1, .int v), (2, .int (nI z25))]) hx hb dK_verify_78 hl (by decide) rfl (fun ls hl => ?_)
          refine lv_aload_n hx hb dK_verify_80 rfl (lv_at hl 3 rfl) ?_
          refine lv_iconst (v := nI 0) hx hb dK_verify_81 (by decide) ?_
          refine va_put (D := g.1) (ci := 0) (v := .int (nI 0)) (ty := .int) (C := "LatticeKeys") (T := T_K) (N := 11) hx hb hts (wg_ft i_K) ty_K k_K n_K hown hK hP hD hS 0 rfl rfl 1 (by decide) (hts _ (wg_t kw_375)) (fun _ h9 => h9) rfl (by decide +kernel) rfl rfl (Nat.le_of_ble_eq_true rfl) dK_verify_82 (fun H locs hP hD hS => ?_)
          have hP : va_P g.1 vcl ([(h0, .inr (0, [.ref kt, .int (nI 0), .ref ka, .int (nI al), .ref kp, .int (nI pn), .ref kks, .ref kds, .ref ksp, .ref kkm, .ref kda]))] ++ pl) _ := hP
          have hD : va_D _ ([(h0, .inr (0, [.ref kt, .int (nI 0), .ref ka, .int (nI al), .ref kp, .int (nI pn), .ref kks, .ref kds, .ref ksp, .ref kkm, .ref kda]))] ++ pl) := hD
          refine lv_iload hx hb dK_verify_85 (lv_at hl 0 rfl) ?_
          refine et_ret ?_
          exact mp_zret hx hb hr hlk (nar_b hq31) hP hD hS ((T, 0, al, pn), pl) ⟨⟨⟨(by show 0 ≤ 16384; omega), (by show al ≤ 8192; omega), (by show pn ≤ 8; omega), hXT, hU⟩, trivial⟩, hO⟩ [0] rfl rfl rfl (by omega) (by omega) dK_verify_87
      | 2, _, hk9 =>
        have kr36 : T q21 = some (16, 5) := hk9
        refine lv_astore_n (lv' := [(3, .ref q21), (0, .ref h0), (1, .int v), (2, .int v2)]) hx hb dK_verify_5 rfl hl (by decide) rfl (fun ls hl => ?_)
        refine lv_aload_n hx hb dK_verify_6 rfl (lv_at hl 0 rfl) ?_
        refine lv_ifnonnull (tgt := 20) hx hb dK_verify_7 (by decide) ?_
        refine lv_aload_n hx hb dK_verify_20 rfl (lv_at hl 1 rfl) ?_
        refine va_get (D := g.1) (ci := 0) (C := "LatticeKeys") (T := T_K) (N := 11) hx hb hts (wg_ft i_K) hown hK hP 0 rfl rfl 7 (by decide) (hts _ (wg_t kw_381)) (fun _ h9 => h9) rfl dK_verify_21 ?_
        refine lv_aload_n hx hb dK_verify_24 rfl (lv_at hl 0 rfl) ?_
        refine ty_get (ci := 13) (C := "LatticeKeys$KeyPair") (TT := T_KP) (N := 3) (kd := (16, 5)) hx hb hts (wg_ft i_KP) hown hK hO kr36 (nxg clo_nil kr36 rfl) hP (fun _ h9 => h9) rfl 0 (by decide) (hts _ (wg_t kw_746)) (fun _ h9 => h9) (cd := (1, 0, 5)) rfl dK_verify_25 (fun v36 hv36 => ?_)
        obtain rfl := (show v36 = .int (nI 5) from hv36)
        refine lv_iconst (v := nI 3) hx hb dK_verify_28 (by decide) ?_
        refine mi_isub hx hb dK_verify_29 (by omega) ?_
        refine mi_as (show nI (5 - 3) = nI 2 from rfl) ?_
        refine ty_aald51 hx hb hK hO k_kds (nxg clo_nil k_kds rfl) hP (by omega) dK_verify_30 (fun r42 kr37 => ?_)
        refine lv_astore (lv' := [(4, .ref r42), (3, .ref q21), (0, .ref h0), (1, .int v), (2, .int v2)]) hx hb dK_verify_31 hl (by decide) rfl (fun ls hl => ?_)
        refine lv_aload_n hx hb dK_verify_33 rfl (lv_at hl 2 rfl) ?_
        refine lv_aload hx hb dK_verify_34 (lv_at hl 0 rfl) ?_
        refine ty_get (ci := 2) (C := "LatticeKeys$DsaSet") (TT := T_DS) (N := 17) (kd := (45, 0)) hx hb hts (wg_ft i_DS) hown hK hO kr37 (nxg clo_nil kr37 rfl) hP (fun _ h9 => h9) rfl 16 (by decide) (hts _ (wg_t kw_337)) (fun _ h9 => h9) (cd := (1, 0, 4627)) rfl dK_verify_36 (fun v37 hv37 => ?_)
        obtain rfl := (show v37 = .int (nI 4627) from hv37)
        refine lv_iload_n hx hb dK_verify_39 rfl (lv_at hl 4 rfl) ?_
        refine mp_i (cx := [(h0, .inr (0, [.ref kt, .int (nI tl), .ref ka, .int (nI al), .ref kp, .int (nI pn), .ref kks, .ref kds, .ref ksp, .ref kkm, .ref kda]))]) (wr := []) hP hD hS hA [0] [] rfl rfl rfl (by decide) (va_runV (As := [.int (nI 4627), .int v2]) (rest := []) F (t_K_holdsContext l g _ T  pl hO hU  4627 v2 h0 kt ka kp kks kds ksp kkm kda tl al pn k_kt k_ka k_kp k_kks k_kds k_ksp k_kkm k_kda (by omega) (by omega)) (cwV 2 hts (wg_app (wg_c kw_1170 (wg_c kw_1172 (wg_c ks_33 (wg_c kw_1 wg_n)))) kw_1173) rfl rfl rfl (by decide +kernel) ⟨by decide, by decide⟩) (pp_V (en_ok g) (q0 := 0) hK hP hD hS hA hE [0] rfl rfl rfl rfl) rfl rfl hl.1 rfl (lv_room (Nat.le_of_ble_eq_true rfl)) dK_verify_40 ⟨Nat.le_of_ble_eq_true rfl, Nat.le_of_ble_eq_true rfl⟩) (fun r43 pl H locs hu32 hP hD hS => ?_)
        obtain ⟨hq32, hO⟩ := hu32
        have hP : va_P g.1 vcl ([(h0, .inr (0, [.ref kt, .int (nI tl), .ref ka, .int (nI al), .ref kp, .int (nI pn), .ref kks, .ref kds, .ref ksp, .ref kkm, .ref kda]))] ++ pl) _ := hP
        have hD : va_D _ ([(h0, .inr (0, [.ref kt, .int (nI tl), .ref ka, .int (nI al), .ref kp, .int (nI pn), .ref kks, .ref kds, .ref ksp, .ref kkm, .ref kda]))] ++ pl) := hD
        refine W.widen (k := 0) (n := 0) (by omega) (by omega) ?_
        rcases hq32 with hq32 | hq32
        · obtain rfl := hq32
          refine lv_if_ne (tgt := 56) hx hb dK_verify_43 (by decide) (fun h31 => absurd h31 (by decide)) (fun h31 => ?_)
          exact et_throw (own := "LatticeKeys") (cls := "java/lang/IllegalArgumentException") (text := "a context of another length, or a short tape") (names := ["java/lang/RuntimeException", "java/lang/Exception"]) (ik := 79) (is := 209) (ic := 83) hx hb htr ctr_IAE_0 ctr_IAE_1 ctr_IAE_2 ctr_IAE_5 hown (by decide) (by decide) (hts _ (wg_t kw_501)) (hts _ (wg_t kw_18)) (hX.2.2.2.2.2.1 16 ("LatticeKeys", 209, "a context of another length, or a short tape") rfl) (hat_IAE hts hX.2) hS.1 (hl.1.trans hml.symm) dK_verify_46 dK_verify_49 dK_verify_50 dK_verify_52 dK_verify_55 htab (Nat.le_of_ble_eq_true rfl) (Nat.le_of_ble_eq_true rfl) (Nat.le_of_ble_eq_true rfl) (Nat.le_of_ble_eq_true rfl) hlk (Nat.le_of_ble_eq_true rfl) (Nat.le_of_ble_eq_true rfl) (List.mem_cons_of_mem _ List.mem_cons_self) hS.2.2 (thr_st hX.2) (fun t hz9 hk9 => ⟨⟨((T, tl, al, pn), pl), ⟨⟨⟨(by show tl ≤ 16384; omega), (by show al ≤ 8192; omega), (by show pn ≤ 8; omega), hXT, hU⟩, trivial⟩, hO⟩, lc_P hP hk9, hD⟩, (lc_S hS hz9 hk9).F rfl⟩)
        · obtain ⟨rfl, z26, hz31, rfl, hz32⟩ := hq32
          refine lv_if_ne (tgt := 56) hx hb dK_verify_43 (by decide) (fun h32 => ?_) (fun h32 => absurd h32 (by decide))
          refine lv_aload_n hx hb dK_verify_56 rfl (lv_at hl 2 rfl) ?_
          refine va_get (D := g.1) (ci := 0) (C := "LatticeKeys") (T := T_K) (N := 11) hx hb hts (wg_ft i_K) hown hK hP 0 rfl rfl 10 (by decide) (hts _ (wg_t kw_384)) (fun _ h9 => h9) rfl dK_verify_57 ?_
          refine lv_aload hx hb dK_verify_60 (lv_at hl 0 rfl) ?_
          refine lv_aload_n hx hb dK_verify_62 rfl (lv_at hl 1 rfl) ?_
          refine ty_get (ci := 13) (C := "LatticeKeys$KeyPair") (TT := T_KP) (N := 3) (kd := (16, 5)) hx hb hts (wg_ft i_KP) hown hK hO kr36 (nxg clo_nil kr36 rfl) hP (fun _ h9 => h9) rfl 1 (by decide) (hts _ (wg_t kw_749)) (fun _ h9 => h9) (cd := (3, 1, 2592)) rfl dK_verify_63 (fun v38 hv38 => ?_)
          obtain ⟨r44, rfl, kr38⟩ := (show ∃ r : Nat, v38 = .ref r ∧ T r = some (1, 2592) from hv38)
          refine lv_aload_n hx hb dK_verify_66 rfl (lv_at hl 2 rfl) ?_
          refine va_get (D := g.1) (ci := 0) (C := "LatticeKeys") (T := T_K) (N := 11) hx hb hts (wg_ft i_K) hown hK hP 0 rfl rfl 0 (by decide) (hts _ (wg_t kw_374)) (fun _ h9 => h9) rfl dK_verify_67 ?_
          refine lv_aload_n hx hb dK_verify_70 rfl (lv_at hl 2 rfl) ?_
          refine va_get (D := g.1) (ci := 0) (C := "LatticeKeys") (T := T_K) (N := 11) hx hb hts (wg_ft i_K) hown hK hP 0 rfl rfl 1 (by decide) (hts _ (wg_t kw_375)) (fun _ h9 => h9) rfl dK_verify_71 ?_
          refine lv_iload_n hx hb dK_verify_74 rfl (lv_at hl 4 rfl) ?_
          refine mp_i (cx := []) (wr := [(h0, .inr (0, [.ref kt, .int (nI tl), .ref ka, .int (nI al), .ref kp, .int (nI pn), .ref kks, .ref kds, .ref ksp, .ref kkm, .ref kda]))]) hP hD hS hA [] [0] rfl rfl rfl (by decide) (va_runV (As := [.ref r42, .ref r44, .ref kt, .int (nI tl), .int (nI z26)]) (rest := []) F (t_DA_accepts_2 l g _ T [] pl hO hU clo_nil clo_nil clo_nil clo_nil kda r42 r44 kt 16384 tl (nI z26) k_kda kr37 kr38 k_kt (by omega) (by omega) (by omega)) (cwV 5 hts (wg_app (wg_c kw_1261 (wg_c kw_1262 (wg_c kw_1263 (wg_c kw_5 wg_n)))) kw_1264) rfl rfl rfl (by decide +kernel) ⟨by decide, by decide⟩) (pp_VT (en_ok g) (ci := 6) (kd := (15, 0)) hK hO k_kda (nxg clo_nil k_kda rfl) (fun _ h9 => ko1 h9) hP hD hS hA hE [] rfl rfl rfl) rfl rfl hl.1 rfl (lv_room (Nat.le_of_ble_eq_true rfl)) dK_verify_75 ⟨Nat.le_of_ble_eq_true rfl, Nat.le_of_ble_eq_true rfl⟩) (fun r45 pl H locs hu33 hP hD hS => ?_)
          obtain ⟨hq33, hO⟩ := hu33
          have hP : va_P g.1 vcl ([(h0, .inr (0, [.ref kt, .int (nI tl), .ref ka, .int (nI al), .ref kp, .int (nI pn), .ref kks, .ref kds, .ref ksp, .ref kkm, .ref kda]))] ++ pl) _ := hP
          have hD : va_D _ ([(h0, .inr (0, [.ref kt, .int (nI tl), .ref ka, .int (nI al), .ref kp, .int (nI pn), .ref kks, .ref kds, .ref ksp, .ref kkm, .ref kda]))] ++ pl) := hD
          refine W.widen (k := 0) (n := 0) (by omega) (by omega) ?_
          refine lv_istore (lv' := [(5, .int r45), (4, .ref r42), (3, .ref q21), (0, .ref h0), (1, .int v), (2, .int (nI z26))]) hx hb dK_verify_78 hl (by decide) rfl (fun ls hl => ?_)
          refine lv_aload_n hx hb dK_verify_80 rfl (lv_at hl 3 rfl) ?_
          refine lv_iconst (v := nI 0) hx hb dK_verify_81 (by decide) ?_
          refine va_put (D := g.1) (ci := 0) (v := .int (nI 0)) (ty := .int) (C := "LatticeKeys") (T := T_K) (N := 11) hx hb hts (wg_ft i_K) ty_K k_K n_K hown hK hP hD hS 0 rfl rfl 1 (by decide) (hts _ (wg_t kw_375)) (fun _ h9 => h9) rfl (by decide +kernel) rfl rfl (Nat.le_of_ble_eq_true rfl) dK_verify_82 (fun H locs hP hD hS => ?_)
          have hP : va_P g.1 vcl ([(h0, .inr (0, [.ref kt, .int (nI 0), .ref ka, .int (nI al), .ref kp, .int (nI pn), .ref kks, .ref kds, .ref ksp, .ref kkm, .ref kda]))] ++ pl) _ := hP
          have hD : va_D _ ([(h0, .inr (0, [.ref kt, .int (nI 0), .ref ka, .int (nI al), .ref kp, .int (nI pn), .ref kks, .ref kds, .ref ksp, .ref kkm, .ref kda]))] ++ pl) := hD
          refine lv_iload hx hb dK_verify_85 (lv_at hl 0 rfl) ?_
          refine et_ret ?_
          exact mp_zret hx hb hr hlk (nar_b hq33) hP hD hS ((T, 0, al, pn), pl) ⟨⟨⟨(by show 0 ≤ 16384; omega), (by show al ≤ 8192; omega), (by show pn ≤ 8; omega), hXT, hU⟩, trivial⟩, hO⟩ [0] rfl rfl rfl (by omega) (by omega) dK_verify_87
      | _ + 3, h9, _ => exact absurd h9 (by omega)
