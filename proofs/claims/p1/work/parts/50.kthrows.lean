set_option maxRecDepth 100000 in
theorem kw_34 : (Jvm.Cond.initialized "java/util/NoSuchElementException") ∈ WG := wgr_1 34 (by rfl) (by rfl)
abbrev c_K_keys : ByteArray := prog_1_method_6_code
abbrev y_K_keys : MethodName := ⟨"LatticeKeys", "keys", "(I)I"⟩
abbrev w_K_keys : List Cond := Cond.code y_K_keys c_K_keys 4 (some .int) :: WG
theorem dK_keys_0 : decode c_K_keys 0 = .ok (.iload_n 1, 1) := by decide +kernel
theorem dK_keys_1 : decode c_K_keys 1 = .ok (.invokestatic 95, 3) := by decide +kernel
theorem dK_keys_4 : decode c_K_keys 4 = .ok (.ifCond .eq 14, 3) := by decide +kernel
theorem dK_keys_7 : decode c_K_keys 7 = .ok (.aload_n 0, 1) := by decide +kernel
theorem dK_keys_8 : decode c_K_keys 8 = .ok (.getfield 13, 3) := by decide +kernel
theorem dK_keys_11 : decode c_K_keys 11 = .ok (.iload_n 1, 1) := by decide +kernel
theorem dK_keys_12 : decode c_K_keys 12 = .ok (.invokestatic 99, 3) := by decide +kernel
theorem dK_keys_15 : decode c_K_keys 15 = .ok (.if_icmp .eq 13, 3) := by decide +kernel
theorem dK_keys_18 : decode c_K_keys 18 = .ok (.new 79, 3) := by decide +kernel
theorem dK_keys_21 : decode c_K_keys 21 = .ok (.dup, 1) := by decide +kernel
theorem dK_keys_22 : decode c_K_keys 22 = .ok (.ldc 103, 2) := by decide +kernel
theorem dK_keys_24 : decode c_K_keys 24 = .ok (.invokespecial 83, 3) := by decide +kernel
theorem dK_keys_27 : decode c_K_keys 27 = .ok (.athrow, 1) := by decide +kernel
theorem dK_keys_28 : decode c_K_keys 28 = .ok (.aload_n 0, 1) := by decide +kernel
theorem dK_keys_29 : decode c_K_keys 29 = .ok (.getfield 29, 3) := by decide +kernel
theorem dK_keys_32 : decode c_K_keys 32 = .ok (.bipush 8, 2) := by decide +kernel
theorem dK_keys_34 : decode c_K_keys 34 = .ok (.if_icmp .lt 13, 3) := by decide +kernel
theorem dK_keys_37 : decode c_K_keys 37 = .ok (.new 69, 3) := by decide +kernel
theorem dK_keys_40 : decode c_K_keys 40 = .ok (.dup, 1) := by decide +kernel
theorem dK_keys_41 : decode c_K_keys 41 = .ok (.ldc 105, 2) := by decide +kernel
theorem dK_keys_43 : decode c_K_keys 43 = .ok (.invokespecial 73, 3) := by decide +kernel
theorem dK_keys_46 : decode c_K_keys 46 = .ok (.athrow, 1) := by decide +kernel
theorem dK_keys_47 : decode c_K_keys 47 = .ok (.aload_n 0, 1) := by decide +kernel
theorem dK_keys_48 : decode c_K_keys 48 = .ok (.iload_n 1, 1) := by decide +kernel
theorem dK_keys_49 : decode c_K_keys 49 = .ok (.invokevirtual 107, 3) := by decide +kernel
theorem dK_keys_52 : decode c_K_keys 52 = .ok (.newarray .byte, 2) := by decide +kernel
theorem dK_keys_54 : decode c_K_keys 54 = .ok (.astore_n 2, 1) := by decide +kernel
theorem dK_keys_55 : decode c_K_keys 55 = .ok (.aload_n 0, 1) := by decide +kernel
theorem dK_keys_56 : decode c_K_keys 56 = .ok (.iload_n 1, 1) := by decide +kernel
theorem dK_keys_57 : decode c_K_keys 57 = .ok (.invokevirtual 110, 3) := by decide +kernel
theorem dK_keys_60 : decode c_K_keys 60 = .ok (.newarray .byte, 2) := by decide +kernel
theorem dK_keys_62 : decode c_K_keys 62 = .ok (.astore_n 3, 1) := by decide +kernel
theorem dK_keys_63 : decode c_K_keys 63 = .ok (.iload_n 1, 1) := by decide +kernel
theorem dK_keys_64 : decode c_K_keys 64 = .ok (.iconst 3, 1) := by decide +kernel
theorem dK_keys_65 : decode c_K_keys 65 = .ok (.if_icmp .ge 25, 3) := by decide +kernel
theorem dK_keys_68 : decode c_K_keys 68 = .ok (.aload_n 0, 1) := by decide +kernel
theorem dK_keys_69 : decode c_K_keys 69 = .ok (.getfield 54, 3) := by decide +kernel
theorem dK_keys_72 : decode c_K_keys 72 = .ok (.aload_n 0, 1) := by decide +kernel
theorem dK_keys_73 : decode c_K_keys 73 = .ok (.getfield 34, 3) := by decide +kernel
theorem dK_keys_76 : decode c_K_keys 76 = .ok (.iload_n 1, 1) := by decide +kernel
theorem dK_keys_77 : decode c_K_keys 77 = .ok (.aaload, 1) := by decide +kernel
theorem dK_keys_78 : decode c_K_keys 78 = .ok (.aload_n 0, 1) := by decide +kernel
theorem dK_keys_79 : decode c_K_keys 79 = .ok (.getfield 9, 3) := by decide +kernel
theorem dK_keys_82 : decode c_K_keys 82 = .ok (.aload_n 2, 1) := by decide +kernel
theorem dK_keys_83 : decode c_K_keys 83 = .ok (.aload_n 3, 1) := by decide +kernel
theorem dK_keys_84 : decode c_K_keys 84 = .ok (.invokevirtual 113, 3) := by decide +kernel
theorem dK_keys_87 : decode c_K_keys 87 = .ok (.goto 24, 3) := by decide +kernel
theorem dK_keys_90 : decode c_K_keys 90 = .ok (.aload_n 0, 1) := by decide +kernel
theorem dK_keys_91 : decode c_K_keys 91 = .ok (.getfield 61, 3) := by decide +kernel
theorem dK_keys_94 : decode c_K_keys 94 = .ok (.aload_n 0, 1) := by decide +kernel
theorem dK_keys_95 : decode c_K_keys 95 = .ok (.getfield 40, 3) := by decide +kernel
theorem dK_keys_98 : decode c_K_keys 98 = .ok (.iload_n 1, 1) := by decide +kernel
theorem dK_keys_99 : decode c_K_keys 99 = .ok (.iconst 3, 1) := by decide +kernel
theorem dK_keys_100 : decode c_K_keys 100 = .ok (.isub, 1) := by decide +kernel
theorem dK_keys_101 : decode c_K_keys 101 = .ok (.aaload, 1) := by decide +kernel
theorem dK_keys_102 : decode c_K_keys 102 = .ok (.aload_n 0, 1) := by decide +kernel
theorem dK_keys_103 : decode c_K_keys 103 = .ok (.getfield 9, 3) := by decide +kernel
theorem dK_keys_106 : decode c_K_keys 106 = .ok (.aload_n 2, 1) := by decide +kernel
theorem dK_keys_107 : decode c_K_keys 107 = .ok (.aload_n 3, 1) := by decide +kernel
theorem dK_keys_108 : decode c_K_keys 108 = .ok (.invokevirtual 117, 3) := by decide +kernel
theorem dK_keys_111 : decode c_K_keys 111 = .ok (.aload_n 0, 1) := by decide +kernel
theorem dK_keys_112 : decode c_K_keys 112 = .ok (.iconst 0, 1) := by decide +kernel
theorem dK_keys_113 : decode c_K_keys 113 = .ok (.putfield 13, 3) := by decide +kernel
theorem dK_keys_116 : decode c_K_keys 116 = .ok (.aload_n 0, 1) := by decide +kernel
theorem dK_keys_117 : decode c_K_keys 117 = .ok (.new 23, 3) := by decide +kernel
theorem dK_keys_120 : decode c_K_keys 120 = .ok (.dup, 1) := by decide +kernel
theorem dK_keys_121 : decode c_K_keys 121 = .ok (.iload_n 1, 1) := by decide +kernel
theorem dK_keys_122 : decode c_K_keys 122 = .ok (.aload_n 2, 1) := by decide +kernel
theorem dK_keys_123 : decode c_K_keys 123 = .ok (.aload_n 3, 1) := by decide +kernel
theorem dK_keys_124 : decode c_K_keys 124 = .ok (.invokespecial 120, 3) := by decide +kernel
theorem dK_keys_127 : decode c_K_keys 127 = .ok (.invokevirtual 123, 3) := by decide +kernel
theorem dK_keys_130 : decode c_K_keys 130 = .ok (.ireturn, 1) := by decide +kernel
abbrev c_K_load : ByteArray := prog_1_method_7_code
abbrev y_K_load : MethodName := ⟨"LatticeKeys", "load", "(IZ)I"⟩
abbrev w_K_load : List Cond := Cond.code y_K_load c_K_load 4 (some .int) :: WG
theorem dK_load_0 : decode c_K_load 0 = .ok (.aload_n 0, 1) := by decide +kernel
theorem dK_load_1 : decode c_K_load 1 = .ok (.iload_n 1, 1) := by decide +kernel
theorem dK_load_2 : decode c_K_load 2 = .ok (.iload_n 2, 1) := by decide +kernel
theorem dK_load_3 : decode c_K_load 3 = .ok (.invokevirtual 127, 3) := by decide +kernel
theorem dK_load_6 : decode c_K_load 6 = .ok (.ifCond .ne 13, 3) := by decide +kernel
theorem dK_load_9 : decode c_K_load 9 = .ok (.new 79, 3) := by decide +kernel
theorem dK_load_12 : decode c_K_load 12 = .ok (.dup, 1) := by decide +kernel
theorem dK_load_13 : decode c_K_load 13 = .ok (.ldc 131, 2) := by decide +kernel
theorem dK_load_15 : decode c_K_load 15 = .ok (.invokespecial 83, 3) := by decide +kernel
theorem dK_load_18 : decode c_K_load 18 = .ok (.athrow, 1) := by decide +kernel
theorem dK_load_19 : decode c_K_load 19 = .ok (.iload_n 1, 1) := by decide +kernel
theorem dK_load_20 : decode c_K_load 20 = .ok (.iconst 3, 1) := by decide +kernel
theorem dK_load_21 : decode c_K_load 21 = .ok (.if_icmp .ge 27, 3) := by decide +kernel
theorem dK_load_24 : decode c_K_load 24 = .ok (.aload_n 0, 1) := by decide +kernel
theorem dK_load_25 : decode c_K_load 25 = .ok (.aload_n 0, 1) := by decide +kernel
theorem dK_load_26 : decode c_K_load 26 = .ok (.getfield 34, 3) := by decide +kernel
theorem dK_load_29 : decode c_K_load 29 = .ok (.iload_n 1, 1) := by decide +kernel
theorem dK_load_30 : decode c_K_load 30 = .ok (.aaload, 1) := by decide +kernel
theorem dK_load_31 : decode c_K_load 31 = .ok (.iload_n 2, 1) := by decide +kernel
theorem dK_load_32 : decode c_K_load 32 = .ok (.invokevirtual 133, 3) := by decide +kernel
theorem dK_load_35 : decode c_K_load 35 = .ok (.ifCond .ne 13, 3) := by decide +kernel
theorem dK_load_38 : decode c_K_load 38 = .ok (.new 137, 3) := by decide +kernel
theorem dK_load_41 : decode c_K_load 41 = .ok (.dup, 1) := by decide +kernel
theorem dK_load_42 : decode c_K_load 42 = .ok (.ldc 139, 2) := by decide +kernel
theorem dK_load_44 : decode c_K_load 44 = .ok (.invokespecial 141, 3) := by decide +kernel
theorem dK_load_47 : decode c_K_load 47 = .ok (.athrow, 1) := by decide +kernel
theorem dK_load_48 : decode c_K_load 48 = .ok (.aload_n 0, 1) := by decide +kernel
theorem dK_load_49 : decode c_K_load 49 = .ok (.getfield 29, 3) := by decide +kernel
theorem dK_load_52 : decode c_K_load 52 = .ok (.bipush 8, 2) := by decide +kernel
theorem dK_load_54 : decode c_K_load 54 = .ok (.if_icmp .lt 13, 3) := by decide +kernel
theorem dK_load_57 : decode c_K_load 57 = .ok (.new 69, 3) := by decide +kernel
theorem dK_load_60 : decode c_K_load 60 = .ok (.dup, 1) := by decide +kernel
theorem dK_load_61 : decode c_K_load 61 = .ok (.ldc 105, 2) := by decide +kernel
theorem dK_load_63 : decode c_K_load 63 = .ok (.invokespecial 73, 3) := by decide +kernel
theorem dK_load_66 : decode c_K_load 66 = .ok (.athrow, 1) := by decide +kernel
theorem dK_load_67 : decode c_K_load 67 = .ok (.iload_n 2, 1) := by decide +kernel
theorem dK_load_68 : decode c_K_load 68 = .ok (.ifCond .eq 11, 3) := by decide +kernel
theorem dK_load_71 : decode c_K_load 71 = .ok (.aload_n 0, 1) := by decide +kernel
theorem dK_load_72 : decode c_K_load 72 = .ok (.iload_n 1, 1) := by decide +kernel
theorem dK_load_73 : decode c_K_load 73 = .ok (.invokevirtual 142, 3) := by decide +kernel
theorem dK_load_76 : decode c_K_load 76 = .ok (.goto 23, 3) := by decide +kernel
theorem dK_load_79 : decode c_K_load 79 = .ok (.new 23, 3) := by decide +kernel
theorem dK_load_82 : decode c_K_load 82 = .ok (.dup, 1) := by decide +kernel
theorem dK_load_83 : decode c_K_load 83 = .ok (.iload_n 1, 1) := by decide +kernel
theorem dK_load_84 : decode c_K_load 84 = .ok (.aload_n 0, 1) := by decide +kernel
theorem dK_load_85 : decode c_K_load 85 = .ok (.getfield 9, 3) := by decide +kernel
theorem dK_load_88 : decode c_K_load 88 = .ok (.aload_n 0, 1) := by decide +kernel
theorem dK_load_89 : decode c_K_load 89 = .ok (.getfield 13, 3) := by decide +kernel
theorem dK_load_92 : decode c_K_load 92 = .ok (.invokestatic 146, 3) := by decide +kernel
theorem dK_load_95 : decode c_K_load 95 = .ok (.aconst_null, 1) := by decide +kernel
theorem dK_load_96 : decode c_K_load 96 = .ok (.invokespecial 120, 3) := by decide +kernel
theorem dK_load_99 : decode c_K_load 99 = .ok (.astore_n 3, 1) := by decide +kernel
theorem dK_load_100 : decode c_K_load 100 = .ok (.aload_n 0, 1) := by decide +kernel
theorem dK_load_101 : decode c_K_load 101 = .ok (.iconst 0, 1) := by decide +kernel
theorem dK_load_102 : decode c_K_load 102 = .ok (.putfield 13, 3) := by decide +kernel
theorem dK_load_105 : decode c_K_load 105 = .ok (.aload_n 0, 1) := by decide +kernel
theorem dK_load_106 : decode c_K_load 106 = .ok (.aload_n 3, 1) := by decide +kernel
theorem dK_load_107 : decode c_K_load 107 = .ok (.invokevirtual 123, 3) := by decide +kernel
theorem dK_load_110 : decode c_K_load 110 = .ok (.ireturn, 1) := by decide +kernel
abbrev c_K_part : ByteArray := prog_1_method_8_code
abbrev y_K_part : MethodName := ⟨"LatticeKeys", "part", "(IZI)I"⟩
abbrev w_K_part : List Cond := Cond.code y_K_part c_K_part 5 (some .int) :: WG
theorem dK_part_0 : decode c_K_part 0 = .ok (.aload_n 0, 1) := by decide +kernel
theorem dK_part_1 : decode c_K_part 1 = .ok (.iload_n 1, 1) := by decide +kernel
theorem dK_part_2 : decode c_K_part 2 = .ok (.iload_n 2, 1) := by decide +kernel
theorem dK_part_3 : decode c_K_part 3 = .ok (.invokevirtual 152, 3) := by decide +kernel
theorem dK_part_6 : decode c_K_part 6 = .ok (.astore 4, 2) := by decide +kernel
theorem dK_part_8 : decode c_K_part 8 = .ok (.aload 4, 2) := by decide +kernel
theorem dK_part_10 : decode c_K_part 10 = .ok (.ifnonnull 13, 3) := by decide +kernel
theorem dK_part_13 : decode c_K_part 13 = .ok (.new 156, 3) := by decide +kernel
theorem dK_part_16 : decode c_K_part 16 = .ok (.dup, 1) := by decide +kernel
theorem dK_part_17 : decode c_K_part 17 = .ok (.ldc 158, 2) := by decide +kernel
theorem dK_part_19 : decode c_K_part 19 = .ok (.invokespecial 160, 3) := by decide +kernel
theorem dK_part_22 : decode c_K_part 22 = .ok (.athrow, 1) := by decide +kernel
theorem dK_part_23 : decode c_K_part 23 = .ok (.iload_n 3, 1) := by decide +kernel
theorem dK_part_24 : decode c_K_part 24 = .ok (.ifCond .lt 10, 3) := by decide +kernel
theorem dK_part_27 : decode c_K_part 27 = .ok (.iload_n 3, 1) := by decide +kernel
theorem dK_part_28 : decode c_K_part 28 = .ok (.aload 4, 2) := by decide +kernel
theorem dK_part_30 : decode c_K_part 30 = .ok (.arraylength, 1) := by decide +kernel
theorem dK_part_31 : decode c_K_part 31 = .ok (.if_icmp .lt 13, 3) := by decide +kernel
theorem dK_part_34 : decode c_K_part 34 = .ok (.new 90, 3) := by decide +kernel
theorem dK_part_37 : decode c_K_part 37 = .ok (.dup, 1) := by decide +kernel
theorem dK_part_38 : decode c_K_part 38 = .ok (.ldc 161, 2) := by decide +kernel
theorem dK_part_40 : decode c_K_part 40 = .ok (.invokespecial 94, 3) := by decide +kernel
theorem dK_part_43 : decode c_K_part 43 = .ok (.athrow, 1) := by decide +kernel
theorem dK_part_44 : decode c_K_part 44 = .ok (.aload 4, 2) := by decide +kernel
theorem dK_part_46 : decode c_K_part 46 = .ok (.iload_n 3, 1) := by decide +kernel
theorem dK_part_47 : decode c_K_part 47 = .ok (.baload, 1) := by decide +kernel
theorem dK_part_48 : decode c_K_part 48 = .ok (.sipush 255, 3) := by decide +kernel
theorem dK_part_51 : decode c_K_part 51 = .ok (.iand, 1) := by decide +kernel
theorem dK_part_52 : decode c_K_part 52 = .ok (.ireturn, 1) := by decide +kernel
abbrev c_K_show : ByteArray := prog_1_method_9_code
abbrev y_K_show : MethodName := ⟨"LatticeKeys", "show", "(IZ)I"⟩
abbrev w_K_show : List Cond := Cond.code y_K_show c_K_show 4 (some .int) :: WG
theorem dK_show_0 : decode c_K_show 0 = .ok (.aload_n 0, 1) := by decide +kernel
theorem dK_show_1 : decode c_K_show 1 = .ok (.iload_n 1, 1) := by decide +kernel
theorem dK_show_2 : decode c_K_show 2 = .ok (.iload_n 2, 1) := by decide +kernel
theorem dK_show_3 : decode c_K_show 3 = .ok (.invokevirtual 152, 3) := by decide +kernel
theorem dK_show_6 : decode c_K_show 6 = .ok (.astore_n 3, 1) := by decide +kernel
theorem dK_show_7 : decode c_K_show 7 = .ok (.aload_n 3, 1) := by decide +kernel
theorem dK_show_8 : decode c_K_show 8 = .ok (.ifnonnull 13, 3) := by decide +kernel
theorem dK_show_11 : decode c_K_show 11 = .ok (.new 156, 3) := by decide +kernel
theorem dK_show_14 : decode c_K_show 14 = .ok (.dup, 1) := by decide +kernel
theorem dK_show_15 : decode c_K_show 15 = .ok (.ldc 158, 2) := by decide +kernel
theorem dK_show_17 : decode c_K_show 17 = .ok (.invokespecial 160, 3) := by decide +kernel
theorem dK_show_20 : decode c_K_show 20 = .ok (.athrow, 1) := by decide +kernel
theorem dK_show_21 : decode c_K_show 21 = .ok (.aload_n 3, 1) := by decide +kernel
theorem dK_show_22 : decode c_K_show 22 = .ok (.iconst 0, 1) := by decide +kernel
theorem dK_show_23 : decode c_K_show 23 = .ok (.aload_n 0, 1) := by decide +kernel
theorem dK_show_24 : decode c_K_show 24 = .ok (.getfield 17, 3) := by decide +kernel
theorem dK_show_27 : decode c_K_show 27 = .ok (.iconst 0, 1) := by decide +kernel
theorem dK_show_28 : decode c_K_show 28 = .ok (.aload_n 3, 1) := by decide +kernel
theorem dK_show_29 : decode c_K_show 29 = .ok (.arraylength, 1) := by decide +kernel
theorem dK_show_30 : decode c_K_show 30 = .ok (.invokestatic 84, 3) := by decide +kernel
theorem dK_show_33 : decode c_K_show 33 = .ok (.aload_n 0, 1) := by decide +kernel
theorem dK_show_34 : decode c_K_show 34 = .ok (.aload_n 3, 1) := by decide +kernel
theorem dK_show_35 : decode c_K_show 35 = .ok (.arraylength, 1) := by decide +kernel
theorem dK_show_36 : decode c_K_show 36 = .ok (.putfield 20, 3) := by decide +kernel
theorem dK_show_39 : decode c_K_show 39 = .ok (.aload_n 0, 1) := by decide +kernel
theorem dK_show_40 : decode c_K_show 40 = .ok (.getfield 20, 3) := by decide +kernel
theorem dK_show_43 : decode c_K_show 43 = .ok (.ireturn, 1) := by decide +kernel
abbrev c_K_told : ByteArray := prog_1_method_10_code
abbrev y_K_told : MethodName := ⟨"LatticeKeys", "told", "(II)I"⟩
abbrev w_K_told : List Cond := Cond.code y_K_told c_K_told 4 (some .int) :: WG
theorem dK_told_0 : decode c_K_told 0 = .ok (.aload_n 0, 1) := by decide +kernel
theorem dK_told_1 : decode c_K_told 1 = .ok (.iload_n 1, 1) := by decide +kernel
theorem dK_told_2 : decode c_K_told 2 = .ok (.invokevirtual 163, 3) := by decide +kernel
theorem dK_told_5 : decode c_K_told 5 = .ok (.astore_n 3, 1) := by decide +kernel
theorem dK_told_6 : decode c_K_told 6 = .ok (.aload_n 3, 1) := by decide +kernel
theorem dK_told_7 : decode c_K_told 7 = .ok (.ifnonnull 13, 3) := by decide +kernel
theorem dK_told_10 : decode c_K_told 10 = .ok (.new 156, 3) := by decide +kernel
theorem dK_told_13 : decode c_K_told 13 = .ok (.dup, 1) := by decide +kernel
theorem dK_told_14 : decode c_K_told 14 = .ok (.ldc 166, 2) := by decide +kernel
theorem dK_told_16 : decode c_K_told 16 = .ok (.invokespecial 160, 3) := by decide +kernel
theorem dK_told_19 : decode c_K_told 19 = .ok (.athrow, 1) := by decide +kernel
theorem dK_told_20 : decode c_K_told 20 = .ok (.iload_n 2, 1) := by decide +kernel
theorem dK_told_21 : decode c_K_told 21 = .ok (.tableswitch 55 0 2 #[27, 32, 38], 27) := by decide +kernel
theorem dK_told_48 : decode c_K_told 48 = .ok (.aload_n 3, 1) := by decide +kernel
theorem dK_told_49 : decode c_K_told 49 = .ok (.getfield 168, 3) := by decide +kernel
theorem dK_told_52 : decode c_K_told 52 = .ok (.ireturn, 1) := by decide +kernel
theorem dK_told_53 : decode c_K_told 53 = .ok (.aload_n 3, 1) := by decide +kernel
theorem dK_told_54 : decode c_K_told 54 = .ok (.getfield 171, 3) := by decide +kernel
theorem dK_told_57 : decode c_K_told 57 = .ok (.arraylength, 1) := by decide +kernel
theorem dK_told_58 : decode c_K_told 58 = .ok (.ireturn, 1) := by decide +kernel
theorem dK_told_59 : decode c_K_told 59 = .ok (.aload_n 3, 1) := by decide +kernel
theorem dK_told_60 : decode c_K_told 60 = .ok (.getfield 174, 3) := by decide +kernel
theorem dK_told_63 : decode c_K_told 63 = .ok (.ifnonnull 7, 3) := by decide +kernel
theorem dK_told_66 : decode c_K_told 66 = .ok (.iconst 0, 1) := by decide +kernel
theorem dK_told_67 : decode c_K_told 67 = .ok (.goto 8, 3) := by decide +kernel
theorem dK_told_70 : decode c_K_told 70 = .ok (.aload_n 3, 1) := by decide +kernel
theorem dK_told_71 : decode c_K_told 71 = .ok (.getfield 174, 3) := by decide +kernel
theorem dK_told_74 : decode c_K_told 74 = .ok (.arraylength, 1) := by decide +kernel
theorem dK_told_75 : decode c_K_told 75 = .ok (.ireturn, 1) := by decide +kernel
theorem dK_told_76 : decode c_K_told 76 = .ok (.new 79, 3) := by decide +kernel
theorem dK_told_79 : decode c_K_told 79 = .ok (.dup, 1) := by decide +kernel
theorem dK_told_80 : decode c_K_told 80 = .ok (.ldc 177, 2) := by decide +kernel
theorem dK_told_82 : decode c_K_told 82 = .ok (.invokespecial 83, 3) := by decide +kernel
theorem dK_told_85 : decode c_K_told 85 = .ok (.athrow, 1) := by decide +kernel
abbrev c_K_seal : ByteArray := prog_1_method_11_code
abbrev y_K_seal : MethodName := ⟨"LatticeKeys", "seal", "(I)I"⟩
abbrev w_K_seal : List Cond := Cond.code y_K_seal c_K_seal 4 (some .int) :: WG
theorem dK_seal_0 : decode c_K_seal 0 = .ok (.aload_n 0, 1) := by decide +kernel
theorem dK_seal_1 : decode c_K_seal 1 = .ok (.iload_n 1, 1) := by decide +kernel
theorem dK_seal_2 : decode c_K_seal 2 = .ok (.invokevirtual 179, 3) := by decide +kernel
theorem dK_seal_5 : decode c_K_seal 5 = .ok (.astore_n 2, 1) := by decide +kernel
theorem dK_seal_6 : decode c_K_seal 6 = .ok (.aload_n 2, 1) := by decide +kernel
theorem dK_seal_7 : decode c_K_seal 7 = .ok (.ifnonnull 13, 3) := by decide +kernel
theorem dK_seal_10 : decode c_K_seal 10 = .ok (.new 156, 3) := by decide +kernel
theorem dK_seal_13 : decode c_K_seal 13 = .ok (.dup, 1) := by decide +kernel
theorem dK_seal_14 : decode c_K_seal 14 = .ok (.ldc 182, 2) := by decide +kernel
theorem dK_seal_16 : decode c_K_seal 16 = .ok (.invokespecial 160, 3) := by decide +kernel
theorem dK_seal_19 : decode c_K_seal 19 = .ok (.athrow, 1) := by decide +kernel
theorem dK_seal_20 : decode c_K_seal 20 = .ok (.aload_n 0, 1) := by decide +kernel
theorem dK_seal_21 : decode c_K_seal 21 = .ok (.getfield 13, 3) := by decide +kernel
theorem dK_seal_24 : decode c_K_seal 24 = .ok (.bipush 32, 2) := by decide +kernel
theorem dK_seal_26 : decode c_K_seal 26 = .ok (.if_icmp .eq 13, 3) := by decide +kernel
theorem dK_seal_29 : decode c_K_seal 29 = .ok (.new 79, 3) := by decide +kernel
theorem dK_seal_32 : decode c_K_seal 32 = .ok (.dup, 1) := by decide +kernel
theorem dK_seal_33 : decode c_K_seal 33 = .ok (.ldc 184, 2) := by decide +kernel
theorem dK_seal_35 : decode c_K_seal 35 = .ok (.invokespecial 83, 3) := by decide +kernel
theorem dK_seal_38 : decode c_K_seal 38 = .ok (.athrow, 1) := by decide +kernel
theorem dK_seal_39 : decode c_K_seal 39 = .ok (.aload_n 0, 1) := by decide +kernel
theorem dK_seal_40 : decode c_K_seal 40 = .ok (.getfield 34, 3) := by decide +kernel
theorem dK_seal_43 : decode c_K_seal 43 = .ok (.aload_n 2, 1) := by decide +kernel
theorem dK_seal_44 : decode c_K_seal 44 = .ok (.getfield 168, 3) := by decide +kernel
theorem dK_seal_47 : decode c_K_seal 47 = .ok (.aaload, 1) := by decide +kernel
theorem dK_seal_48 : decode c_K_seal 48 = .ok (.astore_n 3, 1) := by decide +kernel
theorem dK_seal_49 : decode c_K_seal 49 = .ok (.aload_n 0, 1) := by decide +kernel
theorem dK_seal_50 : decode c_K_seal 50 = .ok (.getfield 54, 3) := by decide +kernel
theorem dK_seal_53 : decode c_K_seal 53 = .ok (.aload_n 3, 1) := by decide +kernel
theorem dK_seal_54 : decode c_K_seal 54 = .ok (.aload_n 2, 1) := by decide +kernel
theorem dK_seal_55 : decode c_K_seal 55 = .ok (.getfield 171, 3) := by decide +kernel
theorem dK_seal_58 : decode c_K_seal 58 = .ok (.aload_n 0, 1) := by decide +kernel
theorem dK_seal_59 : decode c_K_seal 59 = .ok (.getfield 9, 3) := by decide +kernel
theorem dK_seal_62 : decode c_K_seal 62 = .ok (.aload_n 0, 1) := by decide +kernel
theorem dK_seal_63 : decode c_K_seal 63 = .ok (.getfield 17, 3) := by decide +kernel
theorem dK_seal_66 : decode c_K_seal 66 = .ok (.invokevirtual 186, 3) := by decide +kernel
theorem dK_seal_69 : decode c_K_seal 69 = .ok (.aload_n 0, 1) := by decide +kernel
theorem dK_seal_70 : decode c_K_seal 70 = .ok (.iconst 0, 1) := by decide +kernel
theorem dK_seal_71 : decode c_K_seal 71 = .ok (.putfield 13, 3) := by decide +kernel
theorem dK_seal_74 : decode c_K_seal 74 = .ok (.aload_n 0, 1) := by decide +kernel
theorem dK_seal_75 : decode c_K_seal 75 = .ok (.aload_n 3, 1) := by decide +kernel
theorem dK_seal_76 : decode c_K_seal 76 = .ok (.getfield 189, 3) := by decide +kernel
theorem dK_seal_79 : decode c_K_seal 79 = .ok (.bipush 32, 2) := by decide +kernel
theorem dK_seal_81 : decode c_K_seal 81 = .ok (.iadd, 1) := by decide +kernel
theorem dK_seal_82 : decode c_K_seal 82 = .ok (.putfield 20, 3) := by decide +kernel
theorem dK_seal_85 : decode c_K_seal 85 = .ok (.aload_n 0, 1) := by decide +kernel
theorem dK_seal_86 : decode c_K_seal 86 = .ok (.getfield 20, 3) := by decide +kernel
theorem dK_seal_89 : decode c_K_seal 89 = .ok (.ireturn, 1) := by decide +kernel
abbrev c_K_open : ByteArray := prog_1_method_12_code
abbrev y_K_open : MethodName := ⟨"LatticeKeys", "open", "(I)I"⟩
abbrev w_K_open : List Cond := Cond.code y_K_open c_K_open 4 (some .int) :: WG
theorem dK_open_0 : decode c_K_open 0 = .ok (.aload_n 0, 1) := by decide +kernel
theorem dK_open_1 : decode c_K_open 1 = .ok (.iload_n 1, 1) := by decide +kernel
theorem dK_open_2 : decode c_K_open 2 = .ok (.invokevirtual 179, 3) := by decide +kernel
theorem dK_open_5 : decode c_K_open 5 = .ok (.astore_n 2, 1) := by decide +kernel
theorem dK_open_6 : decode c_K_open 6 = .ok (.aload_n 2, 1) := by decide +kernel
theorem dK_open_7 : decode c_K_open 7 = .ok (.ifnull 10, 3) := by decide +kernel
theorem dK_open_10 : decode c_K_open 10 = .ok (.aload_n 2, 1) := by decide +kernel
theorem dK_open_11 : decode c_K_open 11 = .ok (.getfield 174, 3) := by decide +kernel
theorem dK_open_14 : decode c_K_open 14 = .ok (.ifnonnull 13, 3) := by decide +kernel
theorem dK_open_17 : decode c_K_open 17 = .ok (.new 156, 3) := by decide +kernel
theorem dK_open_20 : decode c_K_open 20 = .ok (.dup, 1) := by decide +kernel
theorem dK_open_21 : decode c_K_open 21 = .ok (.ldc 192, 2) := by decide +kernel
theorem dK_open_23 : decode c_K_open 23 = .ok (.invokespecial 160, 3) := by decide +kernel
theorem dK_open_26 : decode c_K_open 26 = .ok (.athrow, 1) := by decide +kernel
theorem dK_open_27 : decode c_K_open 27 = .ok (.aload_n 0, 1) := by decide +kernel
theorem dK_open_28 : decode c_K_open 28 = .ok (.getfield 34, 3) := by decide +kernel
theorem dK_open_31 : decode c_K_open 31 = .ok (.aload_n 2, 1) := by decide +kernel
theorem dK_open_32 : decode c_K_open 32 = .ok (.getfield 168, 3) := by decide +kernel
theorem dK_open_35 : decode c_K_open 35 = .ok (.aaload, 1) := by decide +kernel
theorem dK_open_36 : decode c_K_open 36 = .ok (.astore_n 3, 1) := by decide +kernel
theorem dK_open_37 : decode c_K_open 37 = .ok (.aload_n 0, 1) := by decide +kernel
theorem dK_open_38 : decode c_K_open 38 = .ok (.getfield 13, 3) := by decide +kernel
theorem dK_open_41 : decode c_K_open 41 = .ok (.aload_n 3, 1) := by decide +kernel
theorem dK_open_42 : decode c_K_open 42 = .ok (.getfield 189, 3) := by decide +kernel
theorem dK_open_45 : decode c_K_open 45 = .ok (.if_icmp .eq 13, 3) := by decide +kernel
theorem dK_open_48 : decode c_K_open 48 = .ok (.new 79, 3) := by decide +kernel
theorem dK_open_51 : decode c_K_open 51 = .ok (.dup, 1) := by decide +kernel
theorem dK_open_52 : decode c_K_open 52 = .ok (.ldc 194, 2) := by decide +kernel
theorem dK_open_54 : decode c_K_open 54 = .ok (.invokespecial 83, 3) := by decide +kernel
theorem dK_open_57 : decode c_K_open 57 = .ok (.athrow, 1) := by decide +kernel
theorem dK_open_58 : decode c_K_open 58 = .ok (.aload_n 0, 1) := by decide +kernel
theorem dK_open_59 : decode c_K_open 59 = .ok (.getfield 54, 3) := by decide +kernel
theorem dK_open_62 : decode c_K_open 62 = .ok (.aload_n 3, 1) := by decide +kernel
theorem dK_open_63 : decode c_K_open 63 = .ok (.aload_n 2, 1) := by decide +kernel
theorem dK_open_64 : decode c_K_open 64 = .ok (.aload_n 0, 1) := by decide +kernel
theorem dK_open_65 : decode c_K_open 65 = .ok (.getfield 9, 3) := by decide +kernel
theorem dK_open_68 : decode c_K_open 68 = .ok (.aload_n 0, 1) := by decide +kernel
theorem dK_open_69 : decode c_K_open 69 = .ok (.getfield 17, 3) := by decide +kernel
theorem dK_open_72 : decode c_K_open 72 = .ok (.invokevirtual 196, 3) := by decide +kernel
theorem dK_open_75 : decode c_K_open 75 = .ok (.aload_n 0, 1) := by decide +kernel
theorem dK_open_76 : decode c_K_open 76 = .ok (.iconst 0, 1) := by decide +kernel
theorem dK_open_77 : decode c_K_open 77 = .ok (.putfield 13, 3) := by decide +kernel
theorem dK_open_80 : decode c_K_open 80 = .ok (.aload_n 0, 1) := by decide +kernel
theorem dK_open_81 : decode c_K_open 81 = .ok (.bipush 32, 2) := by decide +kernel
theorem dK_open_83 : decode c_K_open 83 = .ok (.putfield 20, 3) := by decide +kernel
theorem dK_open_86 : decode c_K_open 86 = .ok (.aload_n 0, 1) := by decide +kernel
theorem dK_open_87 : decode c_K_open 87 = .ok (.getfield 20, 3) := by decide +kernel
theorem dK_open_90 : decode c_K_open 90 = .ok (.ireturn, 1) := by decide +kernel
abbrev c_K_sign : ByteArray := prog_1_method_13_code
abbrev y_K_sign : MethodName := ⟨"LatticeKeys", "sign", "(II)I"⟩
abbrev w_K_sign : List Cond := Cond.code y_K_sign c_K_sign 6 (some .int) :: WG
theorem dK_sign_0 : decode c_K_sign 0 = .ok (.aload_n 0, 1) := by decide +kernel
theorem dK_sign_1 : decode c_K_sign 1 = .ok (.iload_n 1, 1) := by decide +kernel
theorem dK_sign_2 : decode c_K_sign 2 = .ok (.invokevirtual 200, 3) := by decide +kernel
theorem dK_sign_5 : decode c_K_sign 5 = .ok (.astore_n 3, 1) := by decide +kernel
theorem dK_sign_6 : decode c_K_sign 6 = .ok (.aload_n 3, 1) := by decide +kernel
theorem dK_sign_7 : decode c_K_sign 7 = .ok (.ifnull 10, 3) := by decide +kernel
theorem dK_sign_10 : decode c_K_sign 10 = .ok (.aload_n 3, 1) := by decide +kernel
theorem dK_sign_11 : decode c_K_sign 11 = .ok (.getfield 174, 3) := by decide +kernel
theorem dK_sign_14 : decode c_K_sign 14 = .ok (.ifnonnull 13, 3) := by decide +kernel
theorem dK_sign_17 : decode c_K_sign 17 = .ok (.new 156, 3) := by decide +kernel
theorem dK_sign_20 : decode c_K_sign 20 = .ok (.dup, 1) := by decide +kernel
theorem dK_sign_21 : decode c_K_sign 21 = .ok (.ldc 203, 2) := by decide +kernel
theorem dK_sign_23 : decode c_K_sign 23 = .ok (.invokespecial 160, 3) := by decide +kernel
theorem dK_sign_26 : decode c_K_sign 26 = .ok (.athrow, 1) := by decide +kernel
theorem dK_sign_27 : decode c_K_sign 27 = .ok (.aload_n 0, 1) := by decide +kernel
theorem dK_sign_28 : decode c_K_sign 28 = .ok (.bipush 32, 2) := by decide +kernel
theorem dK_sign_30 : decode c_K_sign 30 = .ok (.iload_n 2, 1) := by decide +kernel
theorem dK_sign_31 : decode c_K_sign 31 = .ok (.invokevirtual 205, 3) := by decide +kernel
theorem dK_sign_34 : decode c_K_sign 34 = .ok (.ifCond .ne 13, 3) := by decide +kernel
theorem dK_sign_37 : decode c_K_sign 37 = .ok (.new 79, 3) := by decide +kernel
theorem dK_sign_40 : decode c_K_sign 40 = .ok (.dup, 1) := by decide +kernel
theorem dK_sign_41 : decode c_K_sign 41 = .ok (.ldc 209, 2) := by decide +kernel
theorem dK_sign_43 : decode c_K_sign 43 = .ok (.invokespecial 83, 3) := by decide +kernel
theorem dK_sign_46 : decode c_K_sign 46 = .ok (.athrow, 1) := by decide +kernel
theorem dK_sign_47 : decode c_K_sign 47 = .ok (.aload_n 0, 1) := by decide +kernel
theorem dK_sign_48 : decode c_K_sign 48 = .ok (.getfield 40, 3) := by decide +kernel
theorem dK_sign_51 : decode c_K_sign 51 = .ok (.aload_n 3, 1) := by decide +kernel
theorem dK_sign_52 : decode c_K_sign 52 = .ok (.getfield 168, 3) := by decide +kernel
theorem dK_sign_55 : decode c_K_sign 55 = .ok (.iconst 3, 1) := by decide +kernel
theorem dK_sign_56 : decode c_K_sign 56 = .ok (.isub, 1) := by decide +kernel
theorem dK_sign_57 : decode c_K_sign 57 = .ok (.aaload, 1) := by decide +kernel
theorem dK_sign_58 : decode c_K_sign 58 = .ok (.astore 4, 2) := by decide +kernel
theorem dK_sign_60 : decode c_K_sign 60 = .ok (.aload_n 0, 1) := by decide +kernel
theorem dK_sign_61 : decode c_K_sign 61 = .ok (.getfield 61, 3) := by decide +kernel
theorem dK_sign_64 : decode c_K_sign 64 = .ok (.aload 4, 2) := by decide +kernel
theorem dK_sign_66 : decode c_K_sign 66 = .ok (.aload_n 3, 1) := by decide +kernel
theorem dK_sign_67 : decode c_K_sign 67 = .ok (.getfield 174, 3) := by decide +kernel
theorem dK_sign_70 : decode c_K_sign 70 = .ok (.aload_n 0, 1) := by decide +kernel
theorem dK_sign_71 : decode c_K_sign 71 = .ok (.getfield 9, 3) := by decide +kernel
theorem dK_sign_74 : decode c_K_sign 74 = .ok (.aload_n 0, 1) := by decide +kernel
theorem dK_sign_75 : decode c_K_sign 75 = .ok (.getfield 13, 3) := by decide +kernel
theorem dK_sign_78 : decode c_K_sign 78 = .ok (.iload_n 2, 1) := by decide +kernel
theorem dK_sign_79 : decode c_K_sign 79 = .ok (.aload_n 0, 1) := by decide +kernel
theorem dK_sign_80 : decode c_K_sign 80 = .ok (.getfield 17, 3) := by decide +kernel
theorem dK_sign_83 : decode c_K_sign 83 = .ok (.invokevirtual 211, 3) := by decide +kernel
theorem dK_sign_86 : decode c_K_sign 86 = .ok (.istore 5, 2) := by decide +kernel
theorem dK_sign_88 : decode c_K_sign 88 = .ok (.iload 5, 2) := by decide +kernel
theorem dK_sign_90 : decode c_K_sign 90 = .ok (.ifCond .ne 13, 3) := by decide +kernel
theorem dK_sign_93 : decode c_K_sign 93 = .ok (.new 69, 3) := by decide +kernel
theorem dK_sign_96 : decode c_K_sign 96 = .ok (.dup, 1) := by decide +kernel
theorem dK_sign_97 : decode c_K_sign 97 = .ok (.ldc 215, 2) := by decide +kernel
theorem dK_sign_99 : decode c_K_sign 99 = .ok (.invokespecial 73, 3) := by decide +kernel
theorem dK_sign_102 : decode c_K_sign 102 = .ok (.athrow, 1) := by decide +kernel
theorem dK_sign_103 : decode c_K_sign 103 = .ok (.aload_n 0, 1) := by decide +kernel
theorem dK_sign_104 : decode c_K_sign 104 = .ok (.iconst 0, 1) := by decide +kernel
theorem dK_sign_105 : decode c_K_sign 105 = .ok (.putfield 13, 3) := by decide +kernel
theorem dK_sign_108 : decode c_K_sign 108 = .ok (.aload_n 0, 1) := by decide +kernel
theorem dK_sign_109 : decode c_K_sign 109 = .ok (.aload 4, 2) := by decide +kernel
theorem dK_sign_111 : decode c_K_sign 111 = .ok (.getfield 217, 3) := by decide +kernel
theorem dK_sign_114 : decode c_K_sign 114 = .ok (.putfield 20, 3) := by decide +kernel
theorem dK_sign_117 : decode c_K_sign 117 = .ok (.iload 5, 2) := by decide +kernel
theorem dK_sign_119 : decode c_K_sign 119 = .ok (.ireturn, 1) := by decide +kernel
abbrev c_K_verify : ByteArray := prog_1_method_14_code
abbrev y_K_verify : MethodName := ⟨"LatticeKeys", "verify", "(II)Z"⟩
abbrev w_K_verify : List Cond := Cond.code y_K_verify c_K_verify 6 (some .boolean) :: WG
theorem dK_verify_0 : decode c_K_verify 0 = .ok (.aload_n 0, 1) := by decide +kernel
theorem dK_verify_1 : decode c_K_verify 1 = .ok (.iload_n 1, 1) := by decide +kernel
theorem dK_verify_2 : decode c_K_verify 2 = .ok (.invokevirtual 200, 3) := by decide +kernel
theorem dK_verify_5 : decode c_K_verify 5 = .ok (.astore_n 3, 1) := by decide +kernel
theorem dK_verify_6 : decode c_K_verify 6 = .ok (.aload_n 3, 1) := by decide +kernel
theorem dK_verify_7 : decode c_K_verify 7 = .ok (.ifnonnull 13, 3) := by decide +kernel
theorem dK_verify_10 : decode c_K_verify 10 = .ok (.new 156, 3) := by decide +kernel
theorem dK_verify_13 : decode c_K_verify 13 = .ok (.dup, 1) := by decide +kernel
theorem dK_verify_14 : decode c_K_verify 14 = .ok (.ldc 220, 2) := by decide +kernel
theorem dK_verify_16 : decode c_K_verify 16 = .ok (.invokespecial 160, 3) := by decide +kernel
theorem dK_verify_19 : decode c_K_verify 19 = .ok (.athrow, 1) := by decide +kernel
theorem dK_verify_20 : decode c_K_verify 20 = .ok (.aload_n 0, 1) := by decide +kernel
theorem dK_verify_21 : decode c_K_verify 21 = .ok (.getfield 40, 3) := by decide +kernel
theorem dK_verify_24 : decode c_K_verify 24 = .ok (.aload_n 3, 1) := by decide +kernel
theorem dK_verify_25 : decode c_K_verify 25 = .ok (.getfield 168, 3) := by decide +kernel
theorem dK_verify_28 : decode c_K_verify 28 = .ok (.iconst 3, 1) := by decide +kernel
theorem dK_verify_29 : decode c_K_verify 29 = .ok (.isub, 1) := by decide +kernel
theorem dK_verify_30 : decode c_K_verify 30 = .ok (.aaload, 1) := by decide +kernel
theorem dK_verify_31 : decode c_K_verify 31 = .ok (.astore 4, 2) := by decide +kernel
theorem dK_verify_33 : decode c_K_verify 33 = .ok (.aload_n 0, 1) := by decide +kernel
theorem dK_verify_34 : decode c_K_verify 34 = .ok (.aload 4, 2) := by decide +kernel
theorem dK_verify_36 : decode c_K_verify 36 = .ok (.getfield 217, 3) := by decide +kernel
theorem dK_verify_39 : decode c_K_verify 39 = .ok (.iload_n 2, 1) := by decide +kernel
theorem dK_verify_40 : decode c_K_verify 40 = .ok (.invokevirtual 205, 3) := by decide +kernel
theorem dK_verify_43 : decode c_K_verify 43 = .ok (.ifCond .ne 13, 3) := by decide +kernel
theorem dK_verify_46 : decode c_K_verify 46 = .ok (.new 79, 3) := by decide +kernel
theorem dK_verify_49 : decode c_K_verify 49 = .ok (.dup, 1) := by decide +kernel
theorem dK_verify_50 : decode c_K_verify 50 = .ok (.ldc 209, 2) := by decide +kernel
theorem dK_verify_52 : decode c_K_verify 52 = .ok (.invokespecial 83, 3) := by decide +kernel
theorem dK_verify_55 : decode c_K_verify 55 = .ok (.athrow, 1) := by decide +kernel
theorem dK_verify_56 : decode c_K_verify 56 = .ok (.aload_n 0, 1) := by decide +kernel
theorem dK_verify_57 : decode c_K_verify 57 = .ok (.getfield 61, 3) := by decide +kernel
theorem dK_verify_60 : decode c_K_verify 60 = .ok (.aload 4, 2) := by decide +kernel
theorem dK_verify_62 : decode c_K_verify 62 = .ok (.aload_n 3, 1) := by decide +kernel
theorem dK_verify_63 : decode c_K_verify 63 = .ok (.getfield 171, 3) := by decide +kernel
theorem dK_verify_66 : decode c_K_verify 66 = .ok (.aload_n 0, 1) := by decide +kernel
theorem dK_verify_67 : decode c_K_verify 67 = .ok (.getfield 9, 3) := by decide +kernel
theorem dK_verify_70 : decode c_K_verify 70 = .ok (.aload_n 0, 1) := by decide +kernel
theorem dK_verify_71 : decode c_K_verify 71 = .ok (.getfield 13, 3) := by decide +kernel
theorem dK_verify_74 : decode c_K_verify 74 = .ok (.iload_n 2, 1) := by decide +kernel
theorem dK_verify_75 : decode c_K_verify 75 = .ok (.invokevirtual 222, 3) := by decide +kernel
theorem dK_verify_78 : decode c_K_verify 78 = .ok (.istore 5, 2) := by decide +kernel
theorem dK_verify_80 : decode c_K_verify 80 = .ok (.aload_n 0, 1) := by decide +kernel
theorem dK_verify_81 : decode c_K_verify 81 = .ok (.iconst 0, 1) := by decide +kernel
theorem dK_verify_82 : decode c_K_verify 82 = .ok (.putfield 13, 3) := by decide +kernel
theorem dK_verify_85 : decode c_K_verify 85 = .ok (.iload 5, 2) := by decide +kernel
theorem dK_verify_87 : decode c_K_verify 87 = .ok (.ireturn, 1) := by decide +kernel
set_option maxHeartbeats 400000 in
set_option maxRecDepth 100000 in
theorem x_K_keys (l : Launch) (htr : l.stackTraces = false) (g : Gd) (sz : Nat) (h0 : Nat) (u : Nat → Nat) (v : Int32)  : xtMet l y_K_keys w_K_keys ({ frames := 6, cells := 1, slots := 6, locals := 150 } : Room) (va_Pc [.ref h0, .int v] (pr (ex g) g.1 vcl sz [(h0, .inr (0, [.ref (u 0), .int (nI 0), .ref (u 1), .int (nI 0), .ref (u 12), .int (nI 0), .ref (u 2), .ref (u 3), .ref (u 4), .ref (u 13), .ref (u 14)]))])) "java/lang/IllegalArgumentException" 1 6 := by
  refine xt_entry (cc := c_K_keys) (maxL := 4) (ret := (some .int)) (by decide) rfl (Nat.le_of_ble_eq_true rfl) ?_
  intro p e s m args below meth c ls F hr hlk htab hsz hP hD hX hA hl
  obtain ⟨hx, hb, hml, hown, hts⟩ := id F
  have hE := hX.1
  have hK := hE.1
  generalize va_A [(h0, .inr (0, [.ref (u 0), .int (nI 0), .ref (u 1), .int (nI 0), .ref (u 12), .int (nI 0), .ref (u 2), .ref (u 3), .ref (u 4), .ref (u 13), .ref (u 14)]))] sz = A at hD hX hE hA
  have hS : va_S A s.heap s.heap [] := va_S.rf
  have hl : lv_has ls 4 [(0, .ref h0), (1, .int v)] := hl
  refine lv_iload_n hx hb dK_keys_0 rfl (lv_at hl 1 rfl) ?_
  refine mr_i (wc := []) (wr := [(h0, .inr (0, [.ref (u 0), .int (nI 0), .ref (u 1), .int (nI 0), .ref (u 12), .int (nI 0), .ref (u 2), .ref (u 3), .ref (u 4), .ref (u 13), .ref (u 14)]))]) hP hD hS hA [] [0] rfl rfl rfl (by decide) (va_runS (As := [.int v]) (rest := []) F (m_K_isSet l g _ v) (va_cwS 1 hts (wg_app (wg_c kw_558 (wg_c kw_559 (wg_c kw_1 wg_n))) kw_560) rfl rfl rfl (by decide +kernel) ⟨by decide, by decide⟩) (pr_S (en_ok g) hP hD hS hA hE [] rfl rfl) rfl rfl hl.1 rfl (lv_room (Nat.le_of_ble_eq_true rfl)) dK_keys_1 ⟨(by decide), (by decide)⟩) (fun r1 u1 H hu1 hP hD hS => ?_)
  have hP : va_P g.1 vcl [(h0, .inr (0, [.ref (u 0), .int (nI 0), .ref (u 1), .int (nI 0), .ref (u 12), .int (nI 0), .ref (u 2), .ref (u 3), .ref (u 4), .ref (u 13), .ref (u 14)]))] _ := hP
  have hD : va_D _ [(h0, .inr (0, [.ref (u 0), .int (nI 0), .ref (u 1), .int (nI 0), .ref (u 12), .int (nI 0), .ref (u 2), .ref (u 3), .ref (u 4), .ref (u 13), .ref (u 14)]))] := hD
  refine W.widen (k := 0) (n := 0) (by omega) (by omega) ?_
  refine lv_if_eq (tgt := 18) hx hb dK_keys_4 (by decide) (fun h1 => ?_) (fun h1 => ?_)
  · exact xt_throw (own := "LatticeKeys") (cls := "java/lang/IllegalArgumentException") (text := "no such set, or a seed of another length") (names := ["java/lang/RuntimeException", "java/lang/Exception"]) (ik := 79) (is := 103) (ic := 83) hx hb htr ctr_IAE_0 ctr_IAE_1 ctr_IAE_2 ctr_IAE_5 hown (by decide) (by decide) (hts _ (wg_t kw_501)) (hts _ (wg_t kw_18)) (hX.2.2.2.2.2.1 3 ("LatticeKeys", 103, "no such set, or a seed of another length") rfl) (hat_IAE hts hX.2) hS.1 (hl.1.trans hml.symm) dK_keys_18 dK_keys_21 dK_keys_22 dK_keys_24 dK_keys_27 htab (by decide) (by decide) (by decide) (by decide) hlk (by decide) (by decide)
  · refine lv_aload_n hx hb dK_keys_7 rfl (lv_at hl 0 rfl) ?_
    refine va_get (D := g.1) (ci := 0) (C := "LatticeKeys") (T := T_K) (N := 11) hx hb hts (wg_ft i_K) hown hK hP 0 rfl rfl 1 (by decide) (hts _ (wg_t kw_375)) (fun _ h9 => h9) rfl dK_keys_8 ?_
    refine lv_iload_n hx hb dK_keys_11 rfl (lv_at hl 1 rfl) ?_
    refine mr_i (wc := []) (wr := [(h0, .inr (0, [.ref (u 0), .int (nI 0), .ref (u 1), .int (nI 0), .ref (u 12), .int (nI 0), .ref (u 2), .ref (u 3), .ref (u 4), .ref (u 13), .ref (u 14)]))]) hP hD hS hA [] [0] rfl rfl rfl (by decide) (va_runS (As := [.int v]) (rest := [.int (nI 0)]) F (m_K_seedLength l g _ v) (va_cwS 1 hts (wg_app (wg_c kw_561 (wg_c kw_562 (wg_c kw_1 wg_n))) kw_563) rfl rfl rfl (by decide +kernel) ⟨by decide, by decide⟩) (pr_S (en_ok g) hP hD hS hA hE [] rfl rfl) rfl rfl hl.1 rfl (lv_room (Nat.le_of_ble_eq_true rfl)) dK_keys_12 ⟨(by decide), (by decide)⟩) (fun r2 u2 H hu2 hP hD hS => ?_)
    have hP : va_P g.1 vcl [(h0, .inr (0, [.ref (u 0), .int (nI 0), .ref (u 1), .int (nI 0), .ref (u 12), .int (nI 0), .ref (u 2), .ref (u 3), .ref (u 4), .ref (u 13), .ref (u 14)]))] _ := hP
    have hD : va_D _ [(h0, .inr (0, [.ref (u 0), .int (nI 0), .ref (u 1), .int (nI 0), .ref (u 12), .int (nI 0), .ref (u 2), .ref (u 3), .ref (u 4), .ref (u 13), .ref (u 14)]))] := hD
    refine W.widen (k := 0) (n := 0) (by omega) (by omega) ?_
    refine lv_icmp_eq (tgt := 28) hx hb dK_keys_15 (by decide) (fun h2 => absurd h2 hu2) (fun h2 => ?_)
    exact xt_throw (own := "LatticeKeys") (cls := "java/lang/IllegalArgumentException") (text := "no such set, or a seed of another length") (names := ["java/lang/RuntimeException", "java/lang/Exception"]) (ik := 79) (is := 103) (ic := 83) hx hb htr ctr_IAE_0 ctr_IAE_1 ctr_IAE_2 ctr_IAE_5 hown (by decide) (by decide) (hts _ (wg_t kw_501)) (hts _ (wg_t kw_18)) (hX.2.2.2.2.2.1 3 ("LatticeKeys", 103, "no such set, or a seed of another length") rfl) (hat_IAE hts hX.2) hS.1 (hl.1.trans hml.symm) dK_keys_18 dK_keys_21 dK_keys_22 dK_keys_24 dK_keys_27 htab (by decide) (by decide) (by decide) (by decide) hlk (by decide) (by decide)
set_option maxHeartbeats 400000 in
set_option maxRecDepth 100000 in
theorem x_K_load (l : Launch) (htr : l.stackTraces = false) (g : Gd) (sz : Nat) (h0 : Nat) (u : Nat → Nat) (v v2 : Int32)  : xtMet l y_K_load w_K_load ({ frames := 6, cells := 1, slots := 6, locals := 150 } : Room) (va_Pc [.ref h0, .int v, .int v2] (pr (ex g) g.1 vcl sz [(h0, .inr (0, [.ref (u 0), .int (nI 0), .ref (u 1), .int (nI 0), .ref (u 12), .int (nI 0), .ref (u 2), .ref (u 3), .ref (u 4), .ref (u 13), .ref (u 14)])), (u 2, .inl (g.2.1 3, 3, .inr (.inr (.inr (.inr ((va_up (va_up (va_up (fun _ => none) 0 (some (u 6))) 1 (some (u 7))) 2 (some (u 8))))))))), (u 3, .inl (g.2.1 4, 3, .inr (.inr (.inr (.inr ((va_up (va_up (va_up (fun _ => none) 0 (some (u 9))) 1 (some (u 10))) 2 (some (u 11))))))))), (u 6, .inr (1, [.int (nI 2), .int (nI 3), .int (nI 10), .int (nI 4), .int (nI 800), .int (nI 1632), .int (nI 768), .int (nI 768), .int (nI 1568), .int (nI 1600)])), (u 7, .inr (1, [.int (nI 3), .int (nI 2), .int (nI 10), .int (nI 4), .int (nI 1184), .int (nI 2400), .int (nI 1088), .int (nI 1152), .int (nI 2336), .int (nI 2368)])), (u 8, .inr (1, [.int (nI 4), .int (nI 2), .int (nI 11), .int (nI 5), .int (nI 1568), .int (nI 3168), .int (nI 1568), .int (nI 1536), .int (nI 3104), .int (nI 3136)])), (u 9, .inr (2, [.int (nI 4), .int (nI 4), .int (nI 2), .int (nI 3), .int (nI 39), .int (nI 32), .int (nI 18), .int (nI 131072), .int (nI 44), .int (nI 6), .int (nI 95232), .int (nI 80), .int (nI 78), .int (nI 1312), .int (nI 2560), .int (nI 2336), .int (nI 2420)])), (u 10, .inr (2, [.int (nI 6), .int (nI 5), .int (nI 4), .int (nI 4), .int (nI 49), .int (nI 48), .int (nI 20), .int (nI 524288), .int (nI 16), .int (nI 4), .int (nI 261888), .int (nI 55), .int (nI 196), .int (nI 1952), .int (nI 4032), .int (nI 3248), .int (nI 3309)])), (u 11, .inr (2, [.int (nI 8), .int (nI 7), .int (nI 2), .int (nI 3), .int (nI 60), .int (nI 64), .int (nI 20), .int (nI 524288), .int (nI 16), .int (nI 4), .int (nI 261888), .int (nI 75), .int (nI 120), .int (nI 2592), .int (nI 4896), .int (nI 4544), .int (nI 4627)]))])) "java/lang/IllegalArgumentException" 1 6 := by
  refine xt_entry (cc := c_K_load) (maxL := 4) (ret := (some .int)) (by decide) rfl (Nat.le_of_ble_eq_true rfl) ?_
  intro p e s m args below meth c ls F hr hlk htab hsz hP hD hX hA hl
  obtain ⟨hx, hb, hml, hown, hts⟩ := id F
  have hE := hX.1
  have hK := hE.1
  generalize va_A [(h0, .inr (0, [.ref (u 0), .int (nI 0), .ref (u 1), .int (nI 0), .ref (u 12), .int (nI 0), .ref (u 2), .ref (u 3), .ref (u 4), .ref (u 13), .ref (u 14)])), (u 2, .inl (g.2.1 3, 3, .inr (.inr (.inr (.inr ((va_up (va_up (va_up (fun _ => none) 0 (some (u 6))) 1 (some (u 7))) 2 (some (u 8))))))))), (u 3, .inl (g.2.1 4, 3, .inr (.inr (.inr (.inr ((va_up (va_up (va_up (fun _ => none) 0 (some (u 9))) 1 (some (u 10))) 2 (some (u 11))))))))), (u 6, .inr (1, [.int (nI 2), .int (nI 3), .int (nI 10), .int (nI 4), .int (nI 800), .int (nI 1632), .int (nI 768), .int (nI 768), .int (nI 1568), .int (nI 1600)])), (u 7, .inr (1, [.int (nI 3), .int (nI 2), .int (nI 10), .int (nI 4), .int (nI 1184), .int (nI 2400), .int (nI 1088), .int (nI 1152), .int (nI 2336), .int (nI 2368)])), (u 8, .inr (1, [.int (nI 4), .int (nI 2), .int (nI 11), .int (nI 5), .int (nI 1568), .int (nI 3168), .int (nI 1568), .int (nI 1536), .int (nI 3104), .int (nI 3136)])), (u 9, .inr (2, [.int (nI 4), .int (nI 4), .int (nI 2), .int (nI 3), .int (nI 39), .int (nI 32), .int (nI 18), .int (nI 131072), .int (nI 44), .int (nI 6), .int (nI 95232), .int (nI 80), .int (nI 78), .int (nI 1312), .int (nI 2560), .int (nI 2336), .int (nI 2420)])), (u 10, .inr (2, [.int (nI 6), .int (nI 5), .int (nI 4), .int (nI 4), .int (nI 49), .int (nI 48), .int (nI 20), .int (nI 524288), .int (nI 16), .int (nI 4), .int (nI 261888), .int (nI 55), .int (nI 196), .int (nI 1952), .int (nI 4032), .int (nI 3248), .int (nI 3309)])), (u 11, .inr (2, [.int (nI 8), .int (nI 7), .int (nI 2), .int (nI 3), .int (nI 60), .int (nI 64), .int (nI 20), .int (nI 524288), .int (nI 16), .int (nI 4), .int (nI 261888), .int (nI 75), .int (nI 120), .int (nI 2592), .int (nI 4896), .int (nI 4544), .int (nI 4627)]))] sz = A at hD hX hE hA
  have hS : va_S A s.heap s.heap [] := va_S.rf
  have hl : lv_has ls 4 [(0, .ref h0), (1, .int v), (2, .int v2)] := hl
  refine lv_aload_n hx hb dK_load_0 rfl (lv_at hl 0 rfl) ?_
  refine lv_iload_n hx hb dK_load_1 rfl (lv_at hl 1 rfl) ?_
  refine lv_iload_n hx hb dK_load_2 rfl (lv_at hl 2 rfl) ?_
  refine mr_i (wc := [(h0, .inr (0, [.ref (u 0), .int (nI 0), .ref (u 1), .int (nI 0), .ref (u 12), .int (nI 0), .ref (u 2), .ref (u 3), .ref (u 4), .ref (u 13), .ref (u 14)])), (u 2, .inl (g.2.1 3, 3, .inr (.inr (.inr (.inr ((va_up (va_up (va_up (fun _ => none) 0 (some (u 6))) 1 (some (u 7))) 2 (some (u 8))))))))), (u 3, .inl (g.2.1 4, 3, .inr (.inr (.inr (.inr ((va_up (va_up (va_up (fun _ => none) 0 (some (u 9))) 1 (some (u 10))) 2 (some (u 11))))))))), (u 6, .inr (1, [.int (nI 2), .int (nI 3), .int (nI 10), .int (nI 4), .int (nI 800), .int (nI 1632), .int (nI 768), .int (nI 768), .int (nI 1568), .int (nI 1600)])), (u 7, .inr (1, [.int (nI 3), .int (nI 2), .int (nI 10), .int (nI 4), .int (nI 1184), .int (nI 2400), .int (nI 1088), .int (nI 1152), .int (nI 2336), .int (nI 2368)])), (u 8, .inr (1, [.int (nI 4), .int (nI 2), .int (nI 11), .int (nI 5), .int (nI 1568), .int (nI 3168), .int (nI 1568), .int (nI 1536), .int (nI 3104), .int (nI 3136)])), (u 9, .inr (2, [.int (nI 4), .int (nI 4), .int (nI 2), .int (nI 3), .int (nI 39), .int (nI 32), .int (nI 18), .int (nI 131072), .int (nI 44), .int (nI 6), .int (nI 95232), .int (nI 80), .int (nI 78), .int (nI 1312), .int (nI 2560), .int (nI 2336), .int (nI 2420)])), (u 10, .inr (2, [.int (nI 6), .int (nI 5), .int (nI 4), .int (nI 4), .int (nI 49), .int (nI 48), .int (nI 20), .int (nI 524288), .int (nI 16), .int (nI 4), .int (nI 261888), .int (nI 55), .int (nI 196), .int (nI 1952), .int (nI 4032), .int (nI 3248), .int (nI 3309)])), (u 11, .inr (2, [.int (nI 8), .int (nI 7), .int (nI 2), .int (nI 3), .int (nI 60), .int (nI 64), .int (nI 20), .int (nI 524288), .int (nI 16), .int (nI 4), .int (nI 261888), .int (nI 75), .int (nI 120), .int (nI 2592), .int (nI 4896), .int (nI 4544), .int (nI 4627)]))]) (wr := []) hP hD hS hA [0, 1, 2, 3, 4, 5, 6, 7, 8] [] rfl rfl rfl (by decide) (va_runV (As := [.int v, .int v2]) (rest := []) F (m_K_isLoadable l g _ h0 u v v2) (cwV 2 hts (wg_app (wg_c kw_772 (wg_c kw_774 (wg_c ks_20 (wg_c kw_1 wg_n)))) kw_775) rfl rfl rfl (by decide +kernel) ⟨by decide, by decide⟩) (pr_V (en_ok g) (q0 := 0) hK hP hD hS hA hE [0, 1, 2, 3, 4, 5, 6, 7, 8] rfl rfl rfl rfl) rfl rfl hl.1 rfl (lv_room (Nat.le_of_ble_eq_true rfl)) dK_load_3 ⟨(by decide), (by decide)⟩) (fun r1 u1 H hu1 hP hD hS => ?_)
  subst hu1
  have hP : va_P g.1 vcl [] _ := hP
  have hD : va_D _ [] := hD
  refine W.widen (k := 0) (n := 0) (by omega) (by omega) ?_
  refine lv_if_ne (tgt := 19) hx hb dK_load_6 (by decide) (fun h1 => absurd h1 (by decide)) (fun h1 => ?_)
  exact xt_throw (own := "LatticeKeys") (cls := "java/lang/IllegalArgumentException") (text := "no such set or part, or another length") (names := ["java/lang/RuntimeException", "java/lang/Exception"]) (ik := 79) (is := 131) (ic := 83) hx hb htr ctr_IAE_0 ctr_IAE_1 ctr_IAE_2 ctr_IAE_5 hown (by decide) (by decide) (hts _ (wg_t kw_501)) (hts _ (wg_t kw_18)) (hX.2.2.2.2.2.1 5 ("LatticeKeys", 131, "no such set or part, or another length") rfl) (hat_IAE hts hX.2) hS.1 (hl.1.trans hml.symm) dK_load_9 dK_load_12 dK_load_13 dK_load_15 dK_load_18 htab (by decide) (by decide) (by decide) (by decide) hlk (by decide) (by decide)
set_option maxHeartbeats 400000 in
set_option maxRecDepth 100000 in
theorem x_K_part (l : Launch) (htr : l.stackTraces = false) (g : Gd) (sz : Nat) (h0 : Nat) (u : Nat → Nat) (v1 v2 v3 : Int32)  : xtMet l y_K_part w_K_part ({ frames := 6, cells := 1, slots := 6, locals := 150 } : Room) (va_Pc [.ref h0, .int v1, .int v2, .int v3] (pr (ex g) g.1 vcl sz [(h0, .inr (0, [.ref (u 0), .int (nI 0), .ref (u 1), .int (nI 0), .ref (u 12), .int (nI 0), .ref (u 2), .ref (u 3), .ref (u 4), .ref (u 13), .ref (u 14)]))])) "java/util/NoSuchElementException" 1 6 := by
  refine xt_entry (cc := c_K_part) (maxL := 5) (ret := (some .int)) (by decide) rfl (Nat.le_of_ble_eq_true rfl) ?_
  intro p e s m args below meth c ls F hr hlk htab hsz hP hD hX hA hl
  obtain ⟨hx, hb, hml, hown, hts⟩ := id F
  have hE := hX.1
  have hK := hE.1
  generalize va_A [(h0, .inr (0, [.ref (u 0), .int (nI 0), .ref (u 1), .int (nI 0), .ref (u 12), .int (nI 0), .ref (u 2), .ref (u 3), .ref (u 4), .ref (u 13), .ref (u 14)]))] sz = A at hD hX hE hA
  have hS : va_S A s.heap s.heap [] := va_S.rf
  have hl : lv_has ls 5 [(0, .ref h0), (1, .int v1), (2, .int v2), (3, .int v3)] := hl
  refine lv_aload_n hx hb dK_part_0 rfl (lv_at hl 0 rfl) ?_
  refine lv_iload_n hx hb dK_part_1 rfl (lv_at hl 1 rfl) ?_
  refine lv_iload_n hx hb dK_part_2 rfl (lv_at hl 2 rfl) ?_
  refine mr_n (wc := [(h0, .inr (0, [.ref (u 0), .int (nI 0), .ref (u 1), .int (nI 0), .ref (u 12), .int (nI 0), .ref (u 2), .ref (u 3), .ref (u 4), .ref (u 13), .ref (u 14)]))]) (wr := []) hP hD hS hA [0] [] rfl rfl rfl (by decide) (va_runV (As := [.int v1, .int v2]) (rest := []) F (m_K_partOf l g _ h0 u v1 v2) (cwV 2 hts (wg_app (wg_c kw_1056 (wg_c kw_1058 (wg_c ks_23 (wg_c kw_1 wg_n)))) kw_1059) rfl rfl rfl (by decide +kernel) ⟨by decide, by decide⟩) (pr_V (en_ok g) (q0 := 0) hK hP hD hS hA hE [0] rfl rfl rfl rfl) rfl rfl hl.1 rfl (lv_room (Nat.le_of_ble_eq_true rfl)) dK_part_3 ⟨(by decide), (by decide)⟩) (fun u1 H  hP hD hS => ?_)
  have hP : va_P g.1 vcl [] _ := hP
  have hD : va_D _ [] := hD
  refine W.widen (k := 0) (n := 0) (by omega) (by omega) ?_
  refine lv_astoreN (lv' := [(4, .null), (0, .ref h0), (1, .int v1), (2, .int v2), (3, .int v3)]) hx hb dK_part_6 hl (by decide) rfl (fun ls hl => ?_)
  refine lv_aloadN hx hb dK_part_8 (lv_at hl 0 rfl) ?_
  refine lv_ifnonnullN hx hb dK_part_10 ?_
  exact xt_throw (own := "LatticeKeys") (cls := "java/util/NoSuchElementException") (text := "no such keys or part") (names := ["java/lang/RuntimeException", "java/lang/Exception"]) (ik := 156) (is := 158) (ic := 160) hx hb htr ctr_NSE_0 ctr_NSE_1 ctr_NSE_2 ctr_NSE_5 hown (by decide) (by decide) (hts _ (wg_t kw_1064)) (hts _ (wg_t kw_34)) (hX.2.2.2.2.2.1 7 ("LatticeKeys", 158, "no such keys or part") rfl) (hat_NSE hts hX.2) hS.1 (hl.1.trans hml.symm) dK_part_13 dK_part_16 dK_part_17 dK_part_19 dK_part_22 htab (by decide) (by decide) (by decide) (by decide) hlk (by decide) (by decide)
set_option maxHeartbeats 400000 in
set_option maxRecDepth 100000 in
theorem x_K_show (l : Launch) (htr : l.stackTraces = false) (g : Gd) (sz : Nat) (h0 : Nat) (u : Nat → Nat) (v1 v2 : Int32)  : xtMet l y_K_show w_K_show ({ frames := 6, cells := 1, slots := 6, locals := 150 } : Room) (va_Pc [.ref h0, .int v1, .int v2] (pr (ex g) g.1 vcl sz [(h0, .inr (0, [.ref (u 0), .int (nI 0), .ref (u 1), .int (nI 0), .ref (u 12), .int (nI 0), .ref (u 2), .ref (u 3), .ref (u 4), .ref (u 13), .ref (u 14)]))])) "java/util/NoSuchElementException" 1 6 := by
  refine xt_entry (cc := c_K_show) (maxL := 4) (ret := (some .int)) (by decide) rfl (Nat.le_of_ble_eq_true rfl) ?_
  intro p e s m args below meth c ls F hr hlk htab hsz hP hD hX hA hl
  obtain ⟨hx, hb, hml, hown, hts⟩ := id F
  have hE := hX.1
  have hK := hE.1
  generalize va_A [(h0, .inr (0, [.ref (u 0), .int (nI 0), .ref (u 1), .int (nI 0), .ref (u 12), .int (nI 0), .ref (u 2), .ref (u 3), .ref (u 4), .ref (u 13), .ref (u 14)]))] sz = A at hD hX hE hA
  have hS : va_S A s.heap s.heap [] := va_S.rf
  have hl : lv_has ls 4 [(0, .ref h0), (1, .int v1), (2, .int v2)] := hl
  refine lv_aload_n hx hb dK_show_0 rfl (lv_at hl 0 rfl) ?_
  refine lv_iload_n hx hb dK_show_1 rfl (lv_at hl 1 rfl) ?_
  refine lv_iload_n hx hb dK_show_2 rfl (lv_at hl 2 rfl) ?_
  refine mr_n (wc := [(h0, .inr (0, [.ref (u 0), .int (nI 0), .ref (u 1), .int (nI 0), .ref (u 12), .int (nI 0), .ref (u 2), .ref (u 3), .ref (u 4), .ref (u 13), .ref (u 14)]))]) (wr := []) hP hD hS hA [0] [] rfl rfl rfl (by decide) (va_runV (As := [.int v1, .int v2]) (rest := []) F (m_K_partOf l g _ h0 u v1 v2) (cwV 2 hts (wg_app (wg_c kw_1056 (wg_c kw_1058 (wg_c ks_23 (wg_c kw_1 wg_n)))) kw_1059) rfl rfl rfl (by decide +kernel) ⟨by decide, by decide⟩) (pr_V (en_ok g) (q0 := 0) hK hP hD hS hA hE [0] rfl rfl rfl rfl) rfl rfl hl.1 rfl (lv_room (Nat.le_of_ble_eq_true rfl)) dK_show_3 ⟨(by decide), (by decide)⟩) (fun u1 H  hP hD hS => ?_)
  have hP : va_P g.1 vcl [] _ := hP
  have hD : va_D _ [] := hD
  refine W.widen (k := 0) (n := 0) (by omega) (by omega) ?_
  refine lv_astore_nN (lv' := [(3, .null), (0, .ref h0), (1, .int v1), (2, .int v2)]) hx hb dK_show_6 rfl hl (by decide) rfl (fun ls hl => ?_)
  refine lv_aload_nN hx hb dK_show_7 rfl (lv_at hl 0 rfl) ?_
  refine lv_ifnonnullN hx hb dK_show_8 ?_
  exact xt_throw (own := "LatticeKeys") (cls := "java/util/NoSuchElementException") (text := "no such keys or part") (names := ["java/lang/RuntimeException", "java/lang/Exception"]) (ik := 156) (is := 158) (ic := 160) hx hb htr ctr_NSE_0 ctr_NSE_1 ctr_NSE_2 ctr_NSE_5 hown (by decide) (by decide) (hts _ (wg_t kw_1064)) (hts _ (wg_t kw_34)) (hX.2.2.2.2.2.1 7 ("LatticeKeys", 158, "no such keys or part") rfl) (hat_NSE hts hX.2) hS.1 (hl.1.trans hml.symm) dK_show_11 dK_show_14 dK_show_15 dK_show_17 dK_show_20 htab (by decide) (by decide) (by decide) (by decide) hlk (by decide) (by decide)
set_option maxHeartbeats 400000 in
set_option maxRecDepth 100000 in
theorem x_K_told (l : Launch) (htr : l.stackTraces = false) (g : Gd) (sz : Nat) (h0 : Nat) (u : Nat → Nat) (v1 v2 : Int32)  : xtMet l y_K_told w_K_told ({ frames := 6, cells := 1, slots := 6, locals := 150 } : Room) (va_Pc [.ref h0, .int v1, .int v2] (pr (ex g) g.1 vcl sz [(h0, .inr (0, [.ref (u 0), .int (nI 0), .ref (u 1), .int (nI 0), .ref (u 12), .int (nI 0), .ref (u 2), .ref (u 3), .ref (u 4), .ref (u 13), .ref (u 14)]))])) "java/util/NoSuchElementException" 1 6 := by
  refine xt_entry (cc := c_K_told) (maxL := 4) (ret := (some .int)) (by decide) rfl (Nat.le_of_ble_eq_true rfl) ?_
  intro p e s m args below meth c ls F hr hlk htab hsz hP hD hX hA hl
  obtain ⟨hx, hb, hml, hown, hts⟩ := id F
  have hE := hX.1
  have hK := hE.1
  generalize va_A [(h0, .inr (0, [.ref (u 0), .int (nI 0), .ref (u 1), .int (nI 0), .ref (u 12), .int (nI 0), .ref (u 2), .ref (u 3), .ref (u 4), .ref (u 13), .ref (u 14)]))] sz = A at hD hX hE hA
  have hS : va_S A s.heap s.heap [] := va_S.rf
  have hl : lv_has ls 4 [(0, .ref h0), (1, .int v1), (2, .int v2)] := hl
  refine lv_aload_n hx hb dK_told_0 rfl (lv_at hl 0 rfl) ?_
  refine lv_iload_n hx hb dK_told_1 rfl (lv_at hl 1 rfl) ?_
  refine mr_n (wc := [(h0, .inr (0, [.ref (u 0), .int (nI 0), .ref (u 1), .int (nI 0), .ref (u 12), .int (nI 0), .ref (u 2), .ref (u 3), .ref (u 4), .ref (u 13), .ref (u 14)]))]) (wr := []) hP hD hS hA [0] [] rfl rfl rfl (by decide) (va_runV (As := [.int v1]) (rest := []) F (m_K_find l g _ h0 u v1) (cwV 1 hts (wg_app (wg_c kw_1060 (wg_c kw_1062 (wg_c ks_24 (wg_c kw_1 wg_n)))) kw_1063) rfl rfl rfl (by decide +kernel) ⟨by decide, by decide⟩) (pr_V (en_ok g) (q0 := 0) hK hP hD hS hA hE [0] rfl rfl rfl rfl) rfl rfl hl.1 rfl (lv_room (Nat.le_of_ble_eq_true rfl)) dK_told_2 ⟨(by decide), (by decide)⟩) (fun u1 H  hP hD hS => ?_)
  have hP : va_P g.1 vcl [] _ := hP
  have hD : va_D _ [] := hD
  refine W.widen (k := 0) (n := 0) (by omega) (by omega) ?_
  refine lv_astore_nN (lv' := [(3, .null), (0, .ref h0), (1, .int v1), (2, .int v2)]) hx hb dK_told_5 rfl hl (by decide) rfl (fun ls hl => ?_)
  refine lv_aload_nN hx hb dK_told_6 rfl (lv_at hl 0 rfl) ?_
  refine lv_ifnonnullN hx hb dK_told_7 ?_
  exact xt_throw (own := "LatticeKeys") (cls := "java/util/NoSuchElementException") (text := "no such keys") (names := ["java/lang/RuntimeException", "java/lang/Exception"]) (ik := 156) (is := 166) (ic := 160) hx hb htr ctr_NSE_0 ctr_NSE_1 ctr_NSE_2 ctr_NSE_5 hown (by decide) (by decide) (hts _ (wg_t kw_1064)) (hts _ (wg_t kw_34)) (hX.2.2.2.2.2.1 9 ("LatticeKeys", 166, "no such keys") rfl) (hat_NSE hts hX.2) hS.1 (hl.1.trans hml.symm) dK_told_10 dK_told_13 dK_told_14 dK_told_16 dK_told_19 htab (by decide) (by decide) (by decide) (by decide) hlk (by decide) (by decide)
set_option maxHeartbeats 400000 in
set_option maxRecDepth 100000 in
theorem x_K_seal (l : Launch) (htr : l.stackTraces = false) (g : Gd) (sz : Nat) (h0 : Nat) (u : Nat → Nat) (v1 : Int32)  : xtMet l y_K_seal w_K_seal ({ frames := 6, cells := 1, slots := 6, locals := 150 } : Room) (va_Pc [.ref h0, .int v1] (pr (ex g) g.1 vcl sz [(h0, .inr (0, [.ref (u 0), .int (nI 0), .ref (u 1), .int (nI 0), .ref (u 12), .int (nI 0), .ref (u 2), .ref (u 3), .ref (u 4), .ref (u 13), .ref (u 14)]))])) "java/util/NoSuchElementException" 1 6 := by
  refine xt_entry (cc := c_K_seal) (maxL := 4) (ret := (some .int)) (by decide) rfl (Nat.le_of_ble_eq_true rfl) ?_
  intro p e s m args below meth c ls F hr hlk htab hsz hP hD hX hA hl
  obtain ⟨hx, hb, hml, hown, hts⟩ := id F
  have hE := hX.1
  have hK := hE.1
  generalize va_A [(h0, .inr (0, [.ref (u 0), .int (nI 0), .ref (u 1), .int (nI 0), .ref (u 12), .int (nI 0), .ref (u 2), .ref (u 3), .ref (u 4), .ref (u 13), .ref (u 14)]))] sz = A at hD hX hE hA
  have hS : va_S A s.heap s.heap [] := va_S.rf
  have hl : lv_has ls 4 [(0, .ref h0), (1, .int v1)] := hl
  refine lv_aload_n hx hb dK_seal_0 rfl (lv_at hl 0 rfl) ?_
  refine lv_iload_n hx hb dK_seal_1 rfl (lv_at hl 1 rfl) ?_
  refine mr_n (wc := [(h0, .inr (0, [.ref (u 0), .int (nI 0), .ref (u 1), .int (nI 0), .ref (u 12), .int (nI 0), .ref (u 2), .ref (u 3), .ref (u 4), .ref (u 13), .ref (u 14)]))]) (wr := []) hP hD hS hA [0] [] rfl rfl rfl (by decide) (va_runV (As := [.int v1]) (rest := []) F (m_K_findKem l g _ h0 u v1) (cwV 1 hts (wg_app (wg_c kw_1104 (wg_c kw_1106 (wg_c ks_25 (wg_c kw_1 wg_n)))) kw_1107) rfl rfl rfl (by decide +kernel) ⟨by decide, by decide⟩) (pr_V (en_ok g) (q0 := 0) hK hP hD hS hA hE [0] rfl rfl rfl rfl) rfl rfl hl.1 rfl (lv_room (Nat.le_of_ble_eq_true rfl)) dK_seal_2 ⟨(by decide), (by decide)⟩) (fun u1 H  hP hD hS => ?_)
  have hP : va_P g.1 vcl [] _ := hP
  have hD : va_D _ [] := hD
  refine W.widen (k := 0) (n := 0) (by omega) (by omega) ?_
  refine lv_astore_nN (lv' := [(2, .null), (0, .ref h0), (1, .int v1)]) hx hb dK_seal_5 rfl hl (by decide) rfl (fun ls hl => ?_)
  refine lv_aload_nN hx hb dK_seal_6 rfl (lv_at hl 0 rfl) ?_
  refine lv_ifnonnullN hx hb dK_seal_7 ?_
  exact xt_throw (own := "LatticeKeys") (cls := "java/util/NoSuchElementException") (text := "no such keys of ML-KEM") (names := ["java/lang/RuntimeException", "java/lang/Exception"]) (ik := 156) (is := 182) (ic := 160) hx hb htr ctr_NSE_0 ctr_NSE_1 ctr_NSE_2 ctr_NSE_5 hown (by decide) (by decide) (hts _ (wg_t kw_1064)) (hts _ (wg_t kw_34)) (hX.2.2.2.2.2.1 11 ("LatticeKeys", 182, "no such keys of ML-KEM") rfl) (hat_NSE hts hX.2) hS.1 (hl.1.trans hml.symm) dK_seal_10 dK_seal_13 dK_seal_14 dK_seal_16 dK_seal_19 htab (by decide) (by decide) (by decide) (by decide) hlk (by decide) (by decide)
set_option maxHeartbeats 400000 in
set_option maxRecDepth 100000 in
theorem x_K_open (l : Launch) (htr : l.stackTraces = false) (g : Gd) (sz : Nat) (h0 : Nat) (u : Nat → Nat) (v1 : Int32)  : xtMet l y_K_open w_K_open ({ frames := 6, cells := 1, slots := 6, locals := 150 } : Room) (va_Pc [.ref h0, .int v1] (pr (ex g) g.1 vcl sz [(h0, .inr (0, [.ref (u 0), .int (nI 0), .ref (u 1), .int (nI 0), .ref (u 12), .int (nI 0), .ref (u 2), .ref (u 3), .ref (u 4), .ref (u 13), .ref (u 14)]))])) "java/util/NoSuchElementException" 1 6 := by
  refine xt_entry (cc := c_K_open) (maxL := 4) (ret := (some .int)) (by decide) rfl (Nat.le_of_ble_eq_true rfl) ?_
  intro p e s m args below meth c ls F hr hlk htab hsz hP hD hX hA hl
  obtain ⟨hx, hb, hml, hown, hts⟩ := id F
  have hE := hX.1
  have hK := hE.1
  generalize va_A [(h0, .inr (0, [.ref (u 0), .int (nI 0), .ref (u 1), .int (nI 0), .ref (u 12), .int (nI 0), .ref (u 2), .ref (u 3), .ref (u 4), .ref (u 13), .ref (u 14)]))] sz = A at hD hX hE hA
  have hS : va_S A s.heap s.heap [] := va_S.rf
  have hl : lv_has ls 4 [(0, .ref h0), (1, .int v1)] := hl
  refine lv_aload_n hx hb dK_open_0 rfl (lv_at hl 0 rfl) ?_
  refine lv_iload_n hx hb dK_open_1 rfl (lv_at hl 1 rfl) ?_
  refine mr_n (wc := [(h0, .inr (0, [.ref (u 0), .int (nI 0), .ref (u 1), .int (nI 0), .ref (u 12), .int (nI 0), .ref (u 2), .ref (u 3), .ref (u 4), .ref (u 13), .ref (u 14)]))]) (wr := []) hP hD hS hA [0] [] rfl rfl rfl (by decide) (va_runV (As := [.int v1]) (rest := []) F (m_K_findKem l g _ h0 u v1) (cwV 1 hts (wg_app (wg_c kw_1104 (wg_c kw_1106 (wg_c ks_25 (wg_c kw_1 wg_n)))) kw_1107) rfl rfl rfl (by decide +kernel) ⟨by decide, by decide⟩) (pr_V (en_ok g) (q0 := 0) hK hP hD hS hA hE [0] rfl rfl rfl rfl) rfl rfl hl.1 rfl (lv_room (Nat.le_of_ble_eq_true rfl)) dK_open_2 ⟨(by decide), (by decide)⟩) (fun u1 H  hP hD hS => ?_)
  have hP : va_P g.1 vcl [] _ := hP
  have hD : va_D _ [] := hD
  refine W.widen (k := 0) (n := 0) (by omega) (by omega) ?_
  refine lv_astore_nN (lv' := [(2, .null), (0, .ref h0), (1, .int v1)]) hx hb dK_open_5 rfl hl (by decide) rfl (fun ls hl => ?_)
  refine lv_aload_nN hx hb dK_open_6 rfl (lv_at hl 0 rfl) ?_
  refine lv_ifnullN (tgt := 17) hx hb dK_open_7 (by decide) ?_
  exact xt_throw (own := "LatticeKeys") (cls := "java/util/NoSuchElementException") (text := "no such keys of ML-KEM with a secret part") (names := ["java/lang/RuntimeException", "java/lang/Exception"]) (ik := 156) (is := 192) (ic := 160) hx hb htr ctr_NSE_0 ctr_NSE_1 ctr_NSE_2 ctr_NSE_5 hown (by decide) (by decide) (hts _ (wg_t kw_1064)) (hts _ (wg_t kw_34)) (hX.2.2.2.2.2.1 13 ("LatticeKeys", 192, "no such keys of ML-KEM with a secret part") rfl) (hat_NSE hts hX.2) hS.1 (hl.1.trans hml.symm) dK_open_17 dK_open_20 dK_open_21 dK_open_23 dK_open_26 htab (by decide) (by decide) (by decide) (by decide) hlk (by decide) (by decide)
set_option maxHeartbeats 400000 in
set_option maxRecDepth 100000 in
theorem x_K_sign (l : Launch) (htr : l.stackTraces = false) (g : Gd) (sz : Nat) (h0 : Nat) (u : Nat → Nat) (v1 v2 : Int32)  : xtMet l y_K_sign w_K_sign ({ frames := 6, cells := 1, slots := 6, locals := 150 } : Room) (va_Pc [.ref h0, .int v1, .int v2] (pr (ex g) g.1 vcl sz [(h0, .inr (0, [.ref (u 0), .int (nI 0), .ref (u 1), .int (nI 0), .ref (u 12), .int (nI 0), .ref (u 2), .ref (u 3), .ref (u 4), .ref (u 13), .ref (u 14)]))])) "java/util/NoSuchElementException" 1 6 := by
  refine xt_entry (cc := c_K_sign) (maxL := 6) (ret := (some .int)) (by decide) rfl (Nat.le_of_ble_eq_true rfl) ?_
  intro p e s m args below meth c ls F hr hlk htab hsz hP hD hX hA hl
  obtain ⟨hx, hb, hml, hown, hts⟩ := id F
  have hE := hX.1
  have hK := hE.1
  generalize va_A [(h0, .inr (0, [.ref (u 0), .int (nI 0), .ref (u 1), .int (nI 0), .ref (u 12), .int (nI 0), .ref (u 2), .ref (u 3), .ref (u 4), .ref (u 13), .ref (u 14)]))] sz = A at hD hX hE hA
  have hS : va_S A s.heap s.heap [] := va_S.rf
  have hl : lv_has ls 6 [(0, .ref h0), (1, .int v1), (2, .int v2)] := hl
  refine lv_aload_n hx hb dK_sign_0 rfl (lv_at hl 0 rfl) ?_
  refine lv_iload_n hx hb dK_sign_1 rfl (lv_at hl 1 rfl) ?_
  refine mr_n (wc := [(h0, .inr (0, [.ref (u 0), .int (nI 0), .ref (u 1), .int (nI 0), .ref (u 12), .int (nI 0), .ref (u 2), .ref (u 3), .ref (u 4), .ref (u 13), .ref (u 14)]))]) (wr := []) hP hD hS hA [0] [] rfl rfl rfl (by decide) (va_runV (As := [.int v1]) (rest := []) F (m_K_findDsa l g _ h0 u v1) (cwV 1 hts (wg_app (wg_c kw_1165 (wg_c kw_1167 (wg_c ks_32 (wg_c kw_1 wg_n)))) kw_1168) rfl rfl rfl (by decide +kernel) ⟨by decide, by decide⟩) (pr_V (en_ok g) (q0 := 0) hK hP hD hS hA hE [0] rfl rfl rfl rfl) rfl rfl hl.1 rfl (lv_room (Nat.le_of_ble_eq_true rfl)) dK_sign_2 ⟨(by decide), (by decide)⟩) (fun u1 H  hP hD hS => ?_)
  have hP : va_P g.1 vcl [] _ := hP
  have hD : va_D _ [] := hD
  refine W.widen (k := 0) (n := 0) (by omega) (by omega) ?_
  refine lv_astore_nN (lv' := [(3, .null), (0, .ref h0), (1, .int v1), (2, .int v2)]) hx hb dK_sign_5 rfl hl (by decide) rfl (fun ls hl => ?_)
  refine lv_aload_nN hx hb dK_sign_6 rfl (lv_at hl 0 rfl) ?_
  refine lv_ifnullN (tgt := 17) hx hb dK_sign_7 (by decide) ?_
  exact xt_throw (own := "LatticeKeys") (cls := "java/util/NoSuchElementException") (text := "no such keys of ML-DSA with a secret part") (names := ["java/lang/RuntimeException", "java/lang/Exception"]) (ik := 156) (is := 203) (ic := 160) hx hb htr ctr_NSE_0 ctr_NSE_1 ctr_NSE_2 ctr_NSE_5 hown (by decide) (by decide) (hts _ (wg_t kw_1064)) (hts _ (wg_t kw_34)) (hX.2.2.2.2.2.1 15 ("LatticeKeys", 203, "no such keys of ML-DSA with a secret part") rfl) (hat_NSE hts hX.2) hS.1 (hl.1.trans hml.symm) dK_sign_17 dK_sign_20 dK_sign_21 dK_sign_23 dK_sign_26 htab (by decide) (by decide) (by decide) (by decide) hlk (by decide) (by decide)
set_option maxHeartbeats 400000 in
set_option maxRecDepth 100000 in
theorem x_K_verify (l : Launch) (htr : l.stackTraces = false) (g : Gd) (sz : Nat) (h0 : Nat) (u : Nat → Nat) (v1 v2 : Int32)  : xtMet l y_K_verify w_K_verify ({ frames := 6, cells := 1, slots := 6, locals := 150 } : Room) (va_Pc [.ref h0, .int v1, .int v2] (pr (ex g) g.1 vcl sz [(h0, .inr (0, [.ref (u 0), .int (nI 0), .ref (u 1), .int (nI 0), .ref (u 12), .int (nI 0), .ref (u 2), .ref (u 3), .ref (u 4), .ref (u 13), .ref (u 14)]))])) "java/util/NoSuchElementException" 1 6 := by
  refine xt_entry (cc := c_K_verify) (maxL := 6) (ret := (some .boolean)) (by decide) rfl (Nat.le_of_ble_eq_true rfl) ?_
  intro p e s m args below meth c ls F hr hlk htab hsz hP hD hX hA hl
  obtain ⟨hx, hb, hml, hown, hts⟩ := id F
  have hE := hX.1
  have hK := hE.1
  generalize va_A [(h0, .inr (0, [.ref (u 0), .int (nI 0), .ref (u 1), .int (nI 0), .ref (u 12), .int (nI 0), .ref (u 2), .ref (u 3), .ref (u 4), .ref (u 13), .ref (u 14)]))] sz = A at hD hX hE hA
  have hS : va_S A s.heap s.heap [] := va_S.rf
  have hl : lv_has ls 6 [(0, .ref h0), (1, .int v1), (2, .int v2)] := hl
  refine lv_aload_n hx hb dK_verify_0 rfl (lv_at hl 0 rfl) ?_
  refine lv_iload_n hx hb dK_verify_1 rfl (lv_at hl 1 rfl) ?_
  refine mr_n (wc := [(h0, .inr (0, [.ref (u 0), .int (nI 0), .ref (u 1), .int (nI 0), .ref (u 12), .int (nI 0), .ref (u 2), .ref (u 3), .ref (u 4), .ref (u 13), .ref (u 14)]))]) (wr := []) hP hD hS hA [0] [] rfl rfl rfl (by decide) (va_runV (As := [.int v1]) (rest := []) F (m_K_findDsa l g _ h0 u v1) (cwV 1 hts (wg_app (wg_c kw_1165 (wg_c kw_1167 (wg_c ks_32 (wg_c kw_1 wg_n)))) kw_1168) rfl rfl rfl (by decide +kernel) ⟨by decide, by decide⟩) (pr_V (en_ok g) (q0 := 0) hK hP hD hS hA hE [0] rfl rfl rfl rfl) rfl rfl hl.1 rfl (lv_room (Nat.le_of_ble_eq_true rfl)) dK_verify_2 ⟨(by decide), (by decide)⟩) (fun u1 H  hP hD hS => ?_)
  have hP : va_P g.1 vcl [] _ := hP
  have hD : va_D _ [] := hD
  refine W.widen (k := 0) (n := 0) (by omega) (by omega) ?_
  refine lv_astore_nN (lv' := [(3, .null), (0, .ref h0), (1, .int v1), (2, .int v2)]) hx hb dK_verify_5 rfl hl (by decide) rfl (fun ls hl => ?_)
  refine lv_aload_nN hx hb dK_verify_6 rfl (lv_at hl 0 rfl) ?_
  refine lv_ifnonnullN hx hb dK_verify_7 ?_
  exact xt_throw (own := "LatticeKeys") (cls := "java/util/NoSuchElementException") (text := "no such keys of ML-DSA") (names := ["java/lang/RuntimeException", "java/lang/Exception"]) (ik := 156) (is := 220) (ic := 160) hx hb htr ctr_NSE_0 ctr_NSE_1 ctr_NSE_2 ctr_NSE_5 hown (by decide) (by decide) (hts _ (wg_t kw_1064)) (hts _ (wg_t kw_34)) (hX.2.2.2.2.2.1 18 ("LatticeKeys", 220, "no such keys of ML-DSA") rfl) (hat_NSE hts hX.2) hS.1 (hl.1.trans hml.symm) dK_verify_10 dK_verify_13 dK_verify_14 dK_verify_16 dK_verify_19 htab (by decide) (by decide) (by decide) (by decide) hlk (by decide) (by decide)
