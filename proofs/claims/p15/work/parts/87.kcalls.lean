set_option maxRecDepth 100000 in
theorem kw_17 : (Jvm.Cond.initialized "java/lang/IllegalStateException") ∈ WG := wgr_1 17 (by rfl) (by rfl)
set_option maxRecDepth 100000 in
theorem kw_18 : (Jvm.Cond.initialized "java/lang/IllegalArgumentException") ∈ WG := wgr_1 18 (by rfl) (by rfl)
set_option maxRecDepth 100000 in
theorem kw_20 : (Jvm.Cond.initialized "java/lang/IndexOutOfBoundsException") ∈ WG := wgr_1 20 (by rfl) (by rfl)
set_option maxRecDepth 100000 in
theorem kw_34 : (Jvm.Cond.initialized "java/util/NoSuchElementException") ∈ WG := wgr_1 34 (by rfl) (by rfl)
abbrev c_K_feed : ByteArray := prog_1_method_2_code
abbrev y_K_feed : MethodName := ⟨"LatticeKeys", "feed", "(IIIII)I"⟩
abbrev w_K_feed : List Cond := Cond.code y_K_feed c_K_feed 6 (some .int) :: WG
theorem dK_feed_0 : decode c_K_feed 0 = .ok (.aload_n 0, 1) := by decide +kernel
theorem dK_feed_1 : decode c_K_feed 1 = .ok (.getfield 13, 3) := by decide +kernel
theorem dK_feed_4 : decode c_K_feed 4 = .ok (.sipush 16364, 3) := by decide +kernel
theorem dK_feed_7 : decode c_K_feed 7 = .ok (.if_icmp .le 13, 3) := by decide +kernel
theorem dK_feed_10 : decode c_K_feed 10 = .ok (.new 69, 3) := by decide +kernel
theorem dK_feed_13 : decode c_K_feed 13 = .ok (.dup, 1) := by decide +kernel
theorem dK_feed_14 : decode c_K_feed 14 = .ok (.ldc 71, 2) := by decide +kernel
theorem dK_feed_16 : decode c_K_feed 16 = .ok (.invokespecial 73, 3) := by decide +kernel
theorem dK_feed_19 : decode c_K_feed 19 = .ok (.athrow, 1) := by decide +kernel
theorem dK_feed_20 : decode c_K_feed 20 = .ok (.aload_n 0, 1) := by decide +kernel
theorem dK_feed_21 : decode c_K_feed 21 = .ok (.iload_n 1, 1) := by decide +kernel
theorem dK_feed_22 : decode c_K_feed 22 = .ok (.invokevirtual 76, 3) := by decide +kernel
theorem dK_feed_25 : decode c_K_feed 25 = .ok (.aload_n 0, 1) := by decide +kernel
theorem dK_feed_26 : decode c_K_feed 26 = .ok (.iload_n 2, 1) := by decide +kernel
theorem dK_feed_27 : decode c_K_feed 27 = .ok (.invokevirtual 76, 3) := by decide +kernel
theorem dK_feed_30 : decode c_K_feed 30 = .ok (.aload_n 0, 1) := by decide +kernel
theorem dK_feed_31 : decode c_K_feed 31 = .ok (.iload_n 3, 1) := by decide +kernel
theorem dK_feed_32 : decode c_K_feed 32 = .ok (.invokevirtual 76, 3) := by decide +kernel
theorem dK_feed_35 : decode c_K_feed 35 = .ok (.aload_n 0, 1) := by decide +kernel
theorem dK_feed_36 : decode c_K_feed 36 = .ok (.iload 4, 2) := by decide +kernel
theorem dK_feed_38 : decode c_K_feed 38 = .ok (.invokevirtual 76, 3) := by decide +kernel
theorem dK_feed_41 : decode c_K_feed 41 = .ok (.aload_n 0, 1) := by decide +kernel
theorem dK_feed_42 : decode c_K_feed 42 = .ok (.iload 5, 2) := by decide +kernel
theorem dK_feed_44 : decode c_K_feed 44 = .ok (.invokevirtual 76, 3) := by decide +kernel
theorem dK_feed_47 : decode c_K_feed 47 = .ok (.aload_n 0, 1) := by decide +kernel
theorem dK_feed_48 : decode c_K_feed 48 = .ok (.getfield 13, 3) := by decide +kernel
theorem dK_feed_51 : decode c_K_feed 51 = .ok (.ireturn, 1) := by decide +kernel
abbrev c_K_end : ByteArray := prog_1_method_3_code
abbrev y_K_end : MethodName := ⟨"LatticeKeys", "end", "(I)I"⟩
abbrev w_K_end : List Cond := Cond.code y_K_end c_K_end 2 (some .int) :: WG
theorem dK_end_0 : decode c_K_end 0 = .ok (.iload_n 1, 1) := by decide +kernel
theorem dK_end_1 : decode c_K_end 1 = .ok (.ifCond .lt 11, 3) := by decide +kernel
theorem dK_end_4 : decode c_K_end 4 = .ok (.iload_n 1, 1) := by decide +kernel
theorem dK_end_5 : decode c_K_end 5 = .ok (.aload_n 0, 1) := by decide +kernel
theorem dK_end_6 : decode c_K_end 6 = .ok (.getfield 13, 3) := by decide +kernel
theorem dK_end_9 : decode c_K_end 9 = .ok (.if_icmp .le 13, 3) := by decide +kernel
theorem dK_end_12 : decode c_K_end 12 = .ok (.new 79, 3) := by decide +kernel
theorem dK_end_15 : decode c_K_end 15 = .ok (.dup, 1) := by decide +kernel
theorem dK_end_16 : decode c_K_end 16 = .ok (.ldc 81, 2) := by decide +kernel
theorem dK_end_18 : decode c_K_end 18 = .ok (.invokespecial 83, 3) := by decide +kernel
theorem dK_end_21 : decode c_K_end 21 = .ok (.athrow, 1) := by decide +kernel
theorem dK_end_22 : decode c_K_end 22 = .ok (.aload_n 0, 1) := by decide +kernel
theorem dK_end_23 : decode c_K_end 23 = .ok (.iload_n 1, 1) := by decide +kernel
theorem dK_end_24 : decode c_K_end 24 = .ok (.putfield 13, 3) := by decide +kernel
theorem dK_end_27 : decode c_K_end 27 = .ok (.iload_n 1, 1) := by decide +kernel
theorem dK_end_28 : decode c_K_end 28 = .ok (.ireturn, 1) := by decide +kernel
abbrev c_K_again : ByteArray := prog_1_method_4_code
abbrev y_K_again : MethodName := ⟨"LatticeKeys", "again", "()I"⟩
abbrev w_K_again : List Cond := Cond.code y_K_again c_K_again 1 (some .int) :: WG
theorem dK_again_0 : decode c_K_again 0 = .ok (.aload_n 0, 1) := by decide +kernel
theorem dK_again_1 : decode c_K_again 1 = .ok (.getfield 20, 3) := by decide +kernel
theorem dK_again_4 : decode c_K_again 4 = .ok (.sipush 16384, 3) := by decide +kernel
theorem dK_again_7 : decode c_K_again 7 = .ok (.aload_n 0, 1) := by decide +kernel
theorem dK_again_8 : decode c_K_again 8 = .ok (.getfield 13, 3) := by decide +kernel
theorem dK_again_11 : decode c_K_again 11 = .ok (.isub, 1) := by decide +kernel
theorem dK_again_12 : decode c_K_again 12 = .ok (.if_icmp .le 13, 3) := by decide +kernel
theorem dK_again_15 : decode c_K_again 15 = .ok (.new 69, 3) := by decide +kernel
theorem dK_again_18 : decode c_K_again 18 = .ok (.dup, 1) := by decide +kernel
theorem dK_again_19 : decode c_K_again 19 = .ok (.ldc 71, 2) := by decide +kernel
theorem dK_again_21 : decode c_K_again 21 = .ok (.invokespecial 73, 3) := by decide +kernel
theorem dK_again_24 : decode c_K_again 24 = .ok (.athrow, 1) := by decide +kernel
theorem dK_again_25 : decode c_K_again 25 = .ok (.aload_n 0, 1) := by decide +kernel
theorem dK_again_26 : decode c_K_again 26 = .ok (.getfield 17, 3) := by decide +kernel
theorem dK_again_29 : decode c_K_again 29 = .ok (.iconst 0, 1) := by decide +kernel
theorem dK_again_30 : decode c_K_again 30 = .ok (.aload_n 0, 1) := by decide +kernel
theorem dK_again_31 : decode c_K_again 31 = .ok (.getfield 9, 3) := by decide +kernel
theorem dK_again_34 : decode c_K_again 34 = .ok (.aload_n 0, 1) := by decide +kernel
theorem dK_again_35 : decode c_K_again 35 = .ok (.getfield 13, 3) := by decide +kernel
theorem dK_again_38 : decode c_K_again 38 = .ok (.aload_n 0, 1) := by decide +kernel
theorem dK_again_39 : decode c_K_again 39 = .ok (.getfield 20, 3) := by decide +kernel
theorem dK_again_42 : decode c_K_again 42 = .ok (.invokestatic 84, 3) := by decide +kernel
theorem dK_again_45 : decode c_K_again 45 = .ok (.aload_n 0, 1) := by decide +kernel
theorem dK_again_46 : decode c_K_again 46 = .ok (.dup, 1) := by decide +kernel
theorem dK_again_47 : decode c_K_again 47 = .ok (.getfield 13, 3) := by decide +kernel
theorem dK_again_50 : decode c_K_again 50 = .ok (.aload_n 0, 1) := by decide +kernel
theorem dK_again_51 : decode c_K_again 51 = .ok (.getfield 20, 3) := by decide +kernel
theorem dK_again_54 : decode c_K_again 54 = .ok (.iadd, 1) := by decide +kernel
theorem dK_again_55 : decode c_K_again 55 = .ok (.putfield 13, 3) := by decide +kernel
theorem dK_again_58 : decode c_K_again 58 = .ok (.aload_n 0, 1) := by decide +kernel
theorem dK_again_59 : decode c_K_again 59 = .ok (.getfield 13, 3) := by decide +kernel
theorem dK_again_62 : decode c_K_again 62 = .ok (.ireturn, 1) := by decide +kernel
abbrev c_K_alter : ByteArray := prog_1_method_5_code
abbrev y_K_alter : MethodName := ⟨"LatticeKeys", "alter", "(II)I"⟩
abbrev w_K_alter : List Cond := Cond.code y_K_alter c_K_alter 3 (some .int) :: WG
theorem dK_alter_0 : decode c_K_alter 0 = .ok (.iload_n 1, 1) := by decide +kernel
theorem dK_alter_1 : decode c_K_alter 1 = .ok (.ifCond .lt 11, 3) := by decide +kernel
theorem dK_alter_4 : decode c_K_alter 4 = .ok (.iload_n 1, 1) := by decide +kernel
theorem dK_alter_5 : decode c_K_alter 5 = .ok (.aload_n 0, 1) := by decide +kernel
theorem dK_alter_6 : decode c_K_alter 6 = .ok (.getfield 13, 3) := by decide +kernel
theorem dK_alter_9 : decode c_K_alter 9 = .ok (.if_icmp .lt 13, 3) := by decide +kernel
theorem dK_alter_12 : decode c_K_alter 12 = .ok (.new 90, 3) := by decide +kernel
theorem dK_alter_15 : decode c_K_alter 15 = .ok (.dup, 1) := by decide +kernel
theorem dK_alter_16 : decode c_K_alter 16 = .ok (.ldc 92, 2) := by decide +kernel
theorem dK_alter_18 : decode c_K_alter 18 = .ok (.invokespecial 94, 3) := by decide +kernel
theorem dK_alter_21 : decode c_K_alter 21 = .ok (.athrow, 1) := by decide +kernel
theorem dK_alter_22 : decode c_K_alter 22 = .ok (.aload_n 0, 1) := by decide +kernel
theorem dK_alter_23 : decode c_K_alter 23 = .ok (.getfield 9, 3) := by decide +kernel
theorem dK_alter_26 : decode c_K_alter 26 = .ok (.iload_n 1, 1) := by decide +kernel
theorem dK_alter_27 : decode c_K_alter 27 = .ok (.dup2, 1) := by decide +kernel
theorem dK_alter_28 : decode c_K_alter 28 = .ok (.baload, 1) := by decide +kernel
theorem dK_alter_29 : decode c_K_alter 29 = .ok (.iload_n 2, 1) := by decide +kernel
theorem dK_alter_30 : decode c_K_alter 30 = .ok (.i2b, 1) := by decide +kernel
theorem dK_alter_31 : decode c_K_alter 31 = .ok (.ixor, 1) := by decide +kernel
theorem dK_alter_32 : decode c_K_alter 32 = .ok (.i2b, 1) := by decide +kernel
theorem dK_alter_33 : decode c_K_alter 33 = .ok (.bastore, 1) := by decide +kernel
theorem dK_alter_34 : decode c_K_alter 34 = .ok (.aload_n 0, 1) := by decide +kernel
theorem dK_alter_35 : decode c_K_alter 35 = .ok (.getfield 9, 3) := by decide +kernel
theorem dK_alter_38 : decode c_K_alter 38 = .ok (.iload_n 1, 1) := by decide +kernel
theorem dK_alter_39 : decode c_K_alter 39 = .ok (.baload, 1) := by decide +kernel
theorem dK_alter_40 : decode c_K_alter 40 = .ok (.sipush 255, 3) := by decide +kernel
theorem dK_alter_43 : decode c_K_alter 43 = .ok (.iand, 1) := by decide +kernel
theorem dK_alter_44 : decode c_K_alter 44 = .ok (.ireturn, 1) := by decide +kernel
abbrev c_K_part : ByteArray := prog_1_method_8_code
abbrev y_K_part : MethodName := ⟨"LatticeKeys", "part", "(IZI)I"⟩
abbrev w_K_part : List Cond := Cond.code y_K_part c_K_part 5 (some .int) :: WG
theorem dK_part_0 : decode c_K_part 0 = .ok (.aload_n 0, 1) := by decide +kernel
theorem dK_part_1 : decode c_K_part 1 = .ok (.iload_n 1, 1) := by decide +kernel
theorem dK_part_2 : decode c_K_part 2 = .ok (.iload_n 2, 1) := by decide +kernel
theorem dK_part_3 : decode c_K_part 3 = .ok (.invokevirtual 152, 3) := by decide +kernel
theorem dK_part_6 : decode c_K_part 6 = .ok (.astore 4, 2) := by decide +kernel
theorem dK_part_8 : decode c_K_part 8 = .ok (.aload 4, 2) := by decide +kernel
theorem dK_part_10 : decode c_K_part 10 = .ok (.ifnonnull 13, 3) := by decide +kernel
theorem dK_part_13 : decode c_K_part 13 = .ok (.new 156, 3) := by decide +kernel
theorem dK_part_16 : decode c_K_part 16 = .ok (.dup, 1) := by decide +kernel
theorem dK_part_17 : decode c_K_part 17 = .ok (.ldc 158, 2) := by decide +kernel
theorem dK_part_19 : decode c_K_part 19 = .ok (.invokespecial 160, 3) := by decide +kernel
theorem dK_part_22 : decode c_K_part 22 = .ok (.athrow, 1) := by decide +kernel
theorem dK_part_23 : decode c_K_part 23 = .ok (.iload_n 3, 1) := by decide +kernel
theorem dK_part_24 : decode c_K_part 24 = .ok (.ifCond .lt 10, 3) := by decide +kernel
theorem dK_part_27 : decode c_K_part 27 = .ok (.iload_n 3, 1) := by decide +kernel
theorem dK_part_28 : decode c_K_part 28 = .ok (.aload 4, 2) := by decide +kernel
theorem dK_part_30 : decode c_K_part 30 = .ok (.arraylength, 1) := by decide +kernel
theorem dK_part_31 : decode c_K_part 31 = .ok (.if_icmp .lt 13, 3) := by decide +kernel
theorem dK_part_34 : decode c_K_part 34 = .ok (.new 90, 3) := by decide +kernel
theorem dK_part_37 : decode c_K_part 37 = .ok (.dup, 1) := by decide +kernel
theorem dK_part_38 : decode c_K_part 38 = .ok (.ldc 161, 2) := by decide +kernel
theorem dK_part_40 : decode c_K_part 40 = .ok (.invokespecial 94, 3) := by decide +kernel
theorem dK_part_43 : decode c_K_part 43 = .ok (.athrow, 1) := by decide +kernel
theorem dK_part_44 : decode c_K_part 44 = .ok (.aload 4, 2) := by decide +kernel
theorem dK_part_46 : decode c_K_part 46 = .ok (.iload_n 3, 1) := by decide +kernel
theorem dK_part_47 : decode c_K_part 47 = .ok (.baload, 1) := by decide +kernel
theorem dK_part_48 : decode c_K_part 48 = .ok (.sipush 255, 3) := by decide +kernel
theorem dK_part_51 : decode c_K_part 51 = .ok (.iand, 1) := by decide +kernel
theorem dK_part_52 : decode c_K_part 52 = .ok (.ireturn, 1) := by decide +kernel
abbrev c_K_show : ByteArray := prog_1_method_9_code
abbrev y_K_show : MethodName := ⟨"LatticeKeys", "show", "(IZ)I"⟩
abbrev w_K_show : List Cond := Cond.code y_K_show c_K_show 4 (some .int) :: WG
theorem dK_show_0 : decode c_K_show 0 = .ok (.aload_n 0, 1) := by decide +kernel
theorem dK_show_1 : decode c_K_show 1 = .ok (.iload_n 1, 1) := by decide +kernel
theorem dK_show_2 : decode c_K_show 2 = .ok (.iload_n 2, 1) := by decide +kernel
theorem dK_show_3 : decode c_K_show 3 = .ok (.invokevirtual 152, 3) := by decide +kernel
theorem dK_show_6 : decode c_K_show 6 = .ok (.astore_n 3, 1) := by decide +kernel
theorem dK_show_7 : decode c_K_show 7 = .ok (.aload_n 3, 1) := by decide +kernel
theorem dK_show_8 : decode c_K_show 8 = .ok (.ifnonnull 13, 3) := by decide +kernel
theorem dK_show_11 : decode c_K_show 11 = .ok (.new 156, 3) := by decide +kernel
theorem dK_show_14 : decode c_K_show 14 = .ok (.dup, 1) := by decide +kernel
theorem dK_show_15 : decode c_K_show 15 = .ok (.ldc 158, 2) := by decide +kernel
theorem dK_show_17 : decode c_K_show 17 = .ok (.invokespecial 160, 3) := by decide +kernel
theorem dK_show_20 : decode c_K_show 20 = .ok (.athrow, 1) := by decide +kernel
theorem dK_show_21 : decode c_K_show 21 = .ok (.aload_n 3, 1) := by decide +kernel
theorem dK_show_22 : decode c_K_show 22 = .ok (.iconst 0, 1) := by decide +kernel
theorem dK_show_23 : decode c_K_show 23 = .ok (.aload_n 0, 1) := by decide +kernel
theorem dK_show_24 : decode c_K_show 24 = .ok (.getfield 17, 3) := by decide +kernel
theorem dK_show_27 : decode c_K_show 27 = .ok (.iconst 0, 1) := by decide +kernel
theorem dK_show_28 : decode c_K_show 28 = .ok (.aload_n 3, 1) := by decide +kernel
theorem dK_show_29 : decode c_K_show 29 = .ok (.arraylength, 1) := by decide +kernel
theorem dK_show_30 : decode c_K_show 30 = .ok (.invokestatic 84, 3) := by decide +kernel
theorem dK_show_33 : decode c_K_show 33 = .ok (.aload_n 0, 1) := by decide +kernel
theorem dK_show_34 : decode c_K_show 34 = .ok (.aload_n 3, 1) := by decide +kernel
theorem dK_show_35 : decode c_K_show 35 = .ok (.arraylength, 1) := by decide +kernel
theorem dK_show_36 : decode c_K_show 36 = .ok (.putfield 20, 3) := by decide +kernel
theorem dK_show_39 : decode c_K_show 39 = .ok (.aload_n 0, 1) := by decide +kernel
theorem dK_show_40 : decode c_K_show 40 = .ok (.getfield 20, 3) := by decide +kernel
theorem dK_show_43 : decode c_K_show 43 = .ok (.ireturn, 1) := by decide +kernel
abbrev c_K_told : ByteArray := prog_1_method_10_code
abbrev y_K_told : MethodName := ⟨"LatticeKeys", "told", "(II)I"⟩
abbrev w_K_told : List Cond := Cond.code y_K_told c_K_told 4 (some .int) :: WG
theorem dK_told_0 : decode c_K_told 0 = .ok (.aload_n 0, 1) := by decide +kernel
theorem dK_told_1 : decode c_K_told 1 = .ok (.iload_n 1, 1) := by decide +kernel
theorem dK_told_2 : decode c_K_told 2 = .ok (.invokevirtual 163, 3) := by decide +kernel
theorem dK_told_5 : decode c_K_told 5 = .ok (.astore_n 3, 1) := by decide +kernel
theorem dK_told_6 : decode c_K_told 6 = .ok (.aload_n 3, 1) := by decide +kernel
theorem dK_told_7 : decode c_K_told 7 = .ok (.ifnonnull 13, 3) := by decide +kernel
theorem dK_told_10 : decode c_K_told 10 = .ok (.new 156, 3) := by decide +kernel
theorem dK_told_13 : decode c_K_told 13 = .ok (.dup, 1) := by decide +kernel
theorem dK_told_14 : decode c_K_told 14 = .ok (.ldc 166, 2) := by decide +kernel
theorem dK_told_16 : decode c_K_told 16 = .ok (.invokespecial 160, 3) := by decide +kernel
theorem dK_told_19 : decode c_K_told 19 = .ok (.athrow, 1) := by decide +kernel
theorem dK_told_20 : decode c_K_told 20 = .ok (.iload_n 2, 1) := by decide +kernel
theorem dK_told_21 : decode c_K_told 21 = .ok (.tableswitch 55 0 2 #[27, 32, 38], 27) := by decide +kernel
theorem dK_told_48 : decode c_K_told 48 = .ok (.aload_n 3, 1) := by decide +kernel
theorem dK_told_49 : decode c_K_told 49 = .ok (.getfield 168, 3) := by decide +kernel
theorem dK_told_52 : decode c_K_told 52 = .ok (.ireturn, 1) := by decide +kernel
theorem dK_told_53 : decode c_K_told 53 = .ok (.aload_n 3, 1) := by decide +kernel
theorem dK_told_54 : decode c_K_told 54 = .ok (.getfield 171, 3) := by decide +kernel
theorem dK_told_57 : decode c_K_told 57 = .ok (.arraylength, 1) := by decide +kernel
theorem dK_told_58 : decode c_K_told 58 = .ok (.ireturn, 1) := by decide +kernel
theorem dK_told_59 : decode c_K_told 59 = .ok (.aload_n 3, 1) := by decide +kernel
theorem dK_told_60 : decode c_K_told 60 = .ok (.getfield 174, 3) := by decide +kernel
theorem dK_told_63 : decode c_K_told 63 = .ok (.ifnonnull 7, 3) := by decide +kernel
theorem dK_told_66 : decode c_K_told 66 = .ok (.iconst 0, 1) := by decide +kernel
theorem dK_told_67 : decode c_K_told 67 = .ok (.goto 8, 3) := by decide +kernel
theorem dK_told_70 : decode c_K_told 70 = .ok (.aload_n 3, 1) := by decide +kernel
theorem dK_told_71 : decode c_K_told 71 = .ok (.getfield 174, 3) := by decide +kernel
theorem dK_told_74 : decode c_K_told 74 = .ok (.arraylength, 1) := by decide +kernel
theorem dK_told_75 : decode c_K_told 75 = .ok (.ireturn, 1) := by decide +kernel
theorem dK_told_76 : decode c_K_told 76 = .ok (.new 79, 3) := by decide +kernel
theorem dK_told_79 : decode c_K_told 79 = .ok (.dup, 1) := by decide +kernel
theorem dK_told_80 : decode c_K_told 80 = .ok (.ldc 177, 2) := by decide +kernel
theorem dK_told_82 : decode c_K_told 82 = .ok (.invokespecial 83, 3) := by decide +kernel
theorem dK_told_85 : decode c_K_told 85 = .ok (.athrow, 1) := by decide +kernel
abbrev c_K_hash : ByteArray := prog_1_method_15_code
abbrev y_K_hash : MethodName := ⟨"LatticeKeys", "hash", "(II)I"⟩
abbrev w_K_hash : List Cond := Cond.code y_K_hash c_K_hash 3 (some .int) :: WG
theorem dK_hash_0 : decode c_K_hash 0 = .ok (.iload_n 1, 1) := by decide +kernel
theorem dK_hash_1 : decode c_K_hash 1 = .ok (.ifCond .lt 19, 3) := by decide +kernel
theorem dK_hash_4 : decode c_K_hash 4 = .ok (.iload_n 1, 1) := by decide +kernel
theorem dK_hash_5 : decode c_K_hash 5 = .ok (.iconst 3, 1) := by decide +kernel
theorem dK_hash_6 : decode c_K_hash 6 = .ok (.if_icmp .gt 14, 3) := by decide +kernel
theorem dK_hash_9 : decode c_K_hash 9 = .ok (.iload_n 2, 1) := by decide +kernel
theorem dK_hash_10 : decode c_K_hash 10 = .ok (.ifCond .lt 10, 3) := by decide +kernel
theorem dK_hash_13 : decode c_K_hash 13 = .ok (.iload_n 2, 1) := by decide +kernel
theorem dK_hash_14 : decode c_K_hash 14 = .ok (.sipush 8192, 3) := by decide +kernel
theorem dK_hash_17 : decode c_K_hash 17 = .ok (.if_icmp .le 13, 3) := by decide +kernel
theorem dK_hash_20 : decode c_K_hash 20 = .ok (.new 79, 3) := by decide +kernel
theorem dK_hash_23 : decode c_K_hash 23 = .ok (.dup, 1) := by decide +kernel
theorem dK_hash_24 : decode c_K_hash 24 = .ok (.ldc 226, 2) := by decide +kernel
theorem dK_hash_26 : decode c_K_hash 26 = .ok (.invokespecial 83, 3) := by decide +kernel
theorem dK_hash_29 : decode c_K_hash 29 = .ok (.athrow, 1) := by decide +kernel
theorem dK_hash_30 : decode c_K_hash 30 = .ok (.aload_n 0, 1) := by decide +kernel
theorem dK_hash_31 : decode c_K_hash 31 = .ok (.iload_n 1, 1) := by decide +kernel
theorem dK_hash_32 : decode c_K_hash 32 = .ok (.ifCond .ne 8, 3) := by decide +kernel
theorem dK_hash_35 : decode c_K_hash 35 = .ok (.bipush 32, 2) := by decide +kernel
theorem dK_hash_37 : decode c_K_hash 37 = .ok (.goto 14, 3) := by decide +kernel
theorem dK_hash_40 : decode c_K_hash 40 = .ok (.iload_n 1, 1) := by decide +kernel
theorem dK_hash_41 : decode c_K_hash 41 = .ok (.iconst 1, 1) := by decide +kernel
theorem dK_hash_42 : decode c_K_hash 42 = .ok (.if_icmp .ne 8, 3) := by decide +kernel
theorem dK_hash_45 : decode c_K_hash 45 = .ok (.bipush 64, 2) := by decide +kernel
theorem dK_hash_47 : decode c_K_hash 47 = .ok (.goto 4, 3) := by decide +kernel
theorem dK_hash_50 : decode c_K_hash 50 = .ok (.iload_n 2, 1) := by decide +kernel
theorem dK_hash_51 : decode c_K_hash 51 = .ok (.putfield 20, 3) := by decide +kernel
theorem dK_hash_54 : decode c_K_hash 54 = .ok (.aload_n 0, 1) := by decide +kernel
theorem dK_hash_55 : decode c_K_hash 55 = .ok (.getfield 47, 3) := by decide +kernel
theorem dK_hash_58 : decode c_K_hash 58 = .ok (.iload_n 1, 1) := by decide +kernel
theorem dK_hash_59 : decode c_K_hash 59 = .ok (.invokevirtual 228, 3) := by decide +kernel
theorem dK_hash_62 : decode c_K_hash 62 = .ok (.aload_n 0, 1) := by decide +kernel
theorem dK_hash_63 : decode c_K_hash 63 = .ok (.getfield 47, 3) := by decide +kernel
theorem dK_hash_66 : decode c_K_hash 66 = .ok (.aload_n 0, 1) := by decide +kernel
theorem dK_hash_67 : decode c_K_hash 67 = .ok (.getfield 9, 3) := by decide +kernel
theorem dK_hash_70 : decode c_K_hash 70 = .ok (.iconst 0, 1) := by decide +kernel
theorem dK_hash_71 : decode c_K_hash 71 = .ok (.aload_n 0, 1) := by decide +kernel
theorem dK_hash_72 : decode c_K_hash 72 = .ok (.getfield 13, 3) := by decide +kernel
theorem dK_hash_75 : decode c_K_hash 75 = .ok (.invokevirtual 231, 3) := by decide +kernel
theorem dK_hash_78 : decode c_K_hash 78 = .ok (.aload_n 0, 1) := by decide +kernel
theorem dK_hash_79 : decode c_K_hash 79 = .ok (.getfield 47, 3) := by decide +kernel
theorem dK_hash_82 : decode c_K_hash 82 = .ok (.invokevirtual 235, 3) := by decide +kernel
theorem dK_hash_85 : decode c_K_hash 85 = .ok (.aload_n 0, 1) := by decide +kernel
theorem dK_hash_86 : decode c_K_hash 86 = .ok (.getfield 47, 3) := by decide +kernel
theorem dK_hash_89 : decode c_K_hash 89 = .ok (.aload_n 0, 1) := by decide +kernel
theorem dK_hash_90 : decode c_K_hash 90 = .ok (.getfield 17, 3) := by decide +kernel
theorem dK_hash_93 : decode c_K_hash 93 = .ok (.iconst 0, 1) := by decide +kernel
theorem dK_hash_94 : decode c_K_hash 94 = .ok (.aload_n 0, 1) := by decide +kernel
theorem dK_hash_95 : decode c_K_hash 95 = .ok (.getfield 20, 3) := by decide +kernel
theorem dK_hash_98 : decode c_K_hash 98 = .ok (.invokevirtual 238, 3) := by decide +kernel
theorem dK_hash_101 : decode c_K_hash 101 = .ok (.aload_n 0, 1) := by decide +kernel
theorem dK_hash_102 : decode c_K_hash 102 = .ok (.iconst 0, 1) := by decide +kernel
theorem dK_hash_103 : decode c_K_hash 103 = .ok (.putfield 13, 3) := by decide +kernel
theorem dK_hash_106 : decode c_K_hash 106 = .ok (.aload_n 0, 1) := by decide +kernel
theorem dK_hash_107 : decode c_K_hash 107 = .ok (.getfield 20, 3) := by decide +kernel
theorem dK_hash_110 : decode c_K_hash 110 = .ok (.ireturn, 1) := by decide +kernel
abbrev c_K_result : ByteArray := prog_1_method_16_code
abbrev y_K_result : MethodName := ⟨"LatticeKeys", "result", "(I)I"⟩
abbrev w_K_result : List Cond := Cond.code y_K_result c_K_result 2 (some .int) :: WG
theorem dK_result_0 : decode c_K_result 0 = .ok (.iload_n 1, 1) := by decide +kernel
theorem dK_result_1 : decode c_K_result 1 = .ok (.ifCond .lt 11, 3) := by decide +kernel
theorem dK_result_4 : decode c_K_result 4 = .ok (.iload_n 1, 1) := by decide +kernel
theorem dK_result_5 : decode c_K_result 5 = .ok (.aload_n 0, 1) := by decide +kernel
theorem dK_result_6 : decode c_K_result 6 = .ok (.getfield 20, 3) := by decide +kernel
theorem dK_result_9 : decode c_K_result 9 = .ok (.if_icmp .lt 13, 3) := by decide +kernel
theorem dK_result_12 : decode c_K_result 12 = .ok (.new 90, 3) := by decide +kernel
theorem dK_result_15 : decode c_K_result 15 = .ok (.dup, 1) := by decide +kernel
theorem dK_result_16 : decode c_K_result 16 = .ok (.ldc 241, 2) := by decide +kernel
theorem dK_result_18 : decode c_K_result 18 = .ok (.invokespecial 94, 3) := by decide +kernel
theorem dK_result_21 : decode c_K_result 21 = .ok (.athrow, 1) := by decide +kernel
theorem dK_result_22 : decode c_K_result 22 = .ok (.aload_n 0, 1) := by decide +kernel
theorem dK_result_23 : decode c_K_result 23 = .ok (.getfield 17, 3) := by decide +kernel
theorem dK_result_26 : decode c_K_result 26 = .ok (.iload_n 1, 1) := by decide +kernel
theorem dK_result_27 : decode c_K_result 27 = .ok (.baload, 1) := by decide +kernel
theorem dK_result_28 : decode c_K_result 28 = .ok (.sipush 255, 3) := by decide +kernel
theorem dK_result_31 : decode c_K_result 31 = .ok (.iand, 1) := by decide +kernel
theorem dK_result_32 : decode c_K_result 32 = .ok (.ireturn, 1) := by decide +kernel
abbrev c_K_count : ByteArray := prog_1_method_17_code
abbrev y_K_count : MethodName := ⟨"LatticeKeys", "count", "(I)I"⟩
abbrev w_K_count : List Cond := Cond.code y_K_count c_K_count 2 (some .int) :: WG
theorem dK_count_0 : decode c_K_count 0 = .ok (.iload_n 1, 1) := by decide +kernel
theorem dK_count_1 : decode c_K_count 1 = .ok (.tableswitch 42 0 2 #[27, 32, 37], 27) := by decide +kernel
theorem dK_count_28 : decode c_K_count 28 = .ok (.aload_n 0, 1) := by decide +kernel
theorem dK_count_29 : decode c_K_count 29 = .ok (.getfield 13, 3) := by decide +kernel
theorem dK_count_32 : decode c_K_count 32 = .ok (.ireturn, 1) := by decide +kernel
theorem dK_count_33 : decode c_K_count 33 = .ok (.aload_n 0, 1) := by decide +kernel
theorem dK_count_34 : decode c_K_count 34 = .ok (.getfield 29, 3) := by decide +kernel
theorem dK_count_37 : decode c_K_count 37 = .ok (.ireturn, 1) := by decide +kernel
theorem dK_count_38 : decode c_K_count 38 = .ok (.aload_n 0, 1) := by decide +kernel
theorem dK_count_39 : decode c_K_count 39 = .ok (.getfield 20, 3) := by decide +kernel
theorem dK_count_42 : decode c_K_count 42 = .ok (.ireturn, 1) := by decide +kernel
theorem dK_count_43 : decode c_K_count 43 = .ok (.iconst (-1), 1) := by decide +kernel
theorem dK_count_44 : decode c_K_count 44 = .ok (.ireturn, 1) := by decide +kernel
set_option maxHeartbeats 4000000 in
set_option maxRecDepth 100000 in
theorem e_K_feed (l : Launch) (htr : l.stackTraces = false) (g : Gd) (sz : Nat) (T : Ty) (pl : va_W) (hO : okx g T [] pl) (hU : uni T) (v1 : Int32) (v2 : Int32) (v3 : Int32) (v4 : Int32) (v5 : Int32) (h0 kt ka kp kks kds ksp kkm kda tl al pn : Nat) (k_kt : T kt = some (1, 16384)) (k_ka : T ka = some (1, 8192)) (k_kp : T kp = some (6, 0)) (k_kks : T kks = some (50, 0)) (k_kds : T kds = some (51, 0)) (k_ksp : T ksp = some (10, 0)) (k_kkm : T kkm = some (13, 0)) (k_kda : T kda = some (15, 0)) (hb : tl ≤ 16384 ∧ al ≤ 8192 ∧ pn ≤ 8)  : etMet l y_K_feed w_K_feed ({ frames := 6, cells := 1, slots := 6, locals := 90 } : Room) (va_Pc [.ref h0, .int v1, .int v2, .int v3, .int v4, .int v5] (pr (ex g) g.1 vcl sz ([(h0, .inr (0, [.ref kt, .int (nI tl), .ref ka, .int (nI al), .ref kp, .int (nI pn), .ref kks, .ref kds, .ref ksp, .ref kkm, .ref kda]))] ++ pl))) ["java/lang/IllegalStateException"] (va_Qi (fun (r : Int32) (u : (Ty × Nat × Nat × Nat) × va_W) => ((u.1.2.1 ≤ 16384 ∧ u.1.2.2.1 ≤ 8192 ∧ u.1.2.2.2 ≤ 8 ∧ ext T u.1.1 ∧ uni u.1.1) ∧ (True)) ∧ okx g u.1.1 [] u.2) (po g.1 vcl (va_A ([(h0, .inr (0, [.ref kt, .int (nI tl), .ref ka, .int (nI al), .ref kp, .int (nI pn), .ref kks, .ref kds, .ref ksp, .ref kkm, .ref kda]))] ++ pl) sz) (fun (u : (Ty × Nat × Nat × Nat) × va_W) => [(h0, .inr (0, [.ref kt, .int (nI (u.1.2.1)), .ref ka, .int (nI (u.1.2.2.1)), .ref kp, .int (nI (u.1.2.2.2)), .ref kks, .ref kds, .ref ksp, .ref kkm, .ref kda]))] ++ u.2)) (va_A ([(h0, .inr (0, [.ref kt, .int (nI tl), .ref ka, .int (nI al), .ref kp, .int (nI pn), .ref kks, .ref kds, .ref ksp, .ref kkm, .ref kda]))] ++ pl) sz)) (xtP (fun (u : (Ty × Nat × Nat × Nat) × va_W) => ((u.1.2.1 ≤ 16384 ∧ u.1.2.2.1 ≤ 8192 ∧ u.1.2.2.2 ≤ 8 ∧ ext T u.1.1 ∧ uni u.1.1) ∧ (True)) ∧ okx g u.1.1 [] u.2) (po g.1 vcl (va_A ([(h0, .inr (0, [.ref kt, .int (nI tl), .ref ka, .int (nI al), .ref kp, .int (nI pn), .ref kks, .ref kds, .ref ksp, .ref kkm, .ref kda]))] ++ pl) sz) (fun (u : (Ty × Nat × Nat × Nat) × va_W) => [(h0, .inr (0, [.ref kt, .int (nI (u.1.2.1)), .ref ka, .int (nI (u.1.2.2.1)), .ref kp, .int (nI (u.1.2.2.2)), .ref kks, .ref kds, .ref ksp, .ref kkm, .ref kda]))] ++ u.2)) (va_A ([(h0, .inr (0, [.ref kt, .int (nI tl), .ref ka, .int (nI al), .ref kp, .int (nI pn), .ref kks, .ref kds, .ref ksp, .ref kkm, .ref kda]))] ++ pl) sz)) 1 6 (va_A ([(h0, .inr (0, [.ref kt, .int (nI tl), .ref ka, .int (nI al), .ref kp, .int (nI pn), .ref kks, .ref kds, .ref ksp, .ref kkm, .ref kda]))] ++ pl) sz) := by
  refine et_entry (cc := c_K_feed) (maxL := 6) (ret := (some .int)) (by decide) rfl (Nat.le_of_ble_eq_true rfl) ?_
  intro p e s m args below meth c ls F hr hlk htab hsz hP hD hX hA hl
  obtain ⟨hx, hb, hml, hown, hts⟩ := id F
  have hE := hX.1
  have hK := hE.1
  generalize va_A ([(h0, .inr (0, [.ref kt, .int (nI tl), .ref ka, .int (nI al), .ref kp, .int (nI pn), .ref kks, .ref kds, .ref ksp, .ref kkm, .ref kda]))] ++ pl) sz = A at hD hX hE hA ⊢
  have hXT : ext T T := ext_rf
  have hS : va_S A s.heap s.heap [] := va_S.rf
  have hl : lv_has ls 6 [(0, .ref h0), (1, .int v1), (2, .int v2), (3, .int v3), (4, .int v4), (5, .int v5)] := hl
  refine lv_aload_n hx hb dK_feed_0 rfl (lv_at hl 0 rfl) ?_
  refine va_get (D := g.1) (ci := 0) (C := "LatticeKeys") (T := T_K) (N := 11) hx hb hts (wg_ft i_K) hown hK hP 0 rfl rfl 1 (by decide) (hts _ (wg_t kw_375)) (fun _ h9 => h9) rfl dK_feed_1 ?_
  refine lv_sipush (v := nI 16364) hx hb dK_feed_4 (by decide) ?_
  refine mi_le (tgt := 20) hx hb dK_feed_7 (by decide) (by omega) (by omega) (fun h21 => ?_) (fun h21 => ?_)
  · refine lv_aload_n hx hb dK_feed_20 rfl (lv_at hl 0 rfl) ?_
    refine lv_iload_n hx hb dK_feed_21 rfl (lv_at hl 1 rfl) ?_
    refine mp_v (cx := [(h0, .inr (0, [.ref kt, .int (nI tl), .ref ka, .int (nI al), .ref kp, .int (nI pn), .ref kks, .ref kds, .ref ksp, .ref kkm, .ref kda]))]) (wr := []) hP hD hS hA [0] [] rfl rfl rfl (by decide) (va_runV (As := [.int v1]) (rest := []) F (t_K_writeNumber l g _ T  pl hO hU  v1 h0 kt ka kp kks kds ksp kkm kda tl al pn k_kt k_ka k_kp k_kks k_kds k_ksp k_kkm k_kda (by omega) (by omega)) (cwV 1 hts (wg_app (wg_c kw_489 (wg_c kw_491 (wg_c ks_1 (wg_c kw_1 wg_n)))) kw_492) rfl rfl rfl (by decide +kernel) ⟨by decide, by decide⟩) (pp_V (en_ok g) (q0 := 0) hK hP hD hS hA hE [0] rfl rfl rfl rfl) rfl rfl hl.1 rfl (lv_room (Nat.le_of_ble_eq_true rfl)) dK_feed_22 ⟨Nat.le_of_ble_eq_true rfl, Nat.le_of_ble_eq_true rfl⟩) (fun  pl H locs hu21 hP hD hS => ?_)
    obtain ⟨hq21, hO⟩ := hu21
    have hP : va_P g.1 vcl ([(h0, .inr (0, [.ref kt, .int (nI (tl + 4)), .ref ka, .int (nI al), .ref kp, .int (nI pn), .ref kks, .ref kds, .ref ksp, .ref kkm, .ref kda]))] ++ pl) _ := hP
    have hD : va_D _ ([(h0, .inr (0, [.ref kt, .int (nI (tl + 4)), .ref ka, .int (nI al), .ref kp, .int (nI pn), .ref kks, .ref kds, .ref ksp, .ref kkm, .ref kda]))] ++ pl) := hD
    refine W.widen (k := 0) (n := 0) (by omega) (by omega) ?_
    refine lv_aload_n hx hb dK_feed_25 rfl (lv_at hl 0 rfl) ?_
    refine lv_iload_n hx hb dK_feed_26 rfl (lv_at hl 2 rfl) ?_
    refine mp_v (cx := [(h0, .inr (0, [.ref kt, .int (nI (tl + 4)), .ref ka, .int (nI al), .ref kp, .int (nI pn), .ref kks, .ref kds, .ref ksp, .ref kkm, .ref kda]))]) (wr := []) hP hD hS hA [0] [] rfl rfl rfl (by decide) (va_runV (As := [.int v2]) (rest := []) F (t_K_writeNumber l g _ T  pl hO hU  v2 h0 kt ka kp kks kds ksp kkm kda (tl + 4) al pn k_kt k_ka k_kp k_kks k_kds k_ksp k_kkm k_kda (by omega) (by omega)) (cwV 1 hts (wg_app (wg_c kw_489 (wg_c kw_491 (wg_c ks_1 (wg_c kw_1 wg_n)))) kw_492) rfl rfl rfl (by decide +kernel) ⟨by decide, by decide⟩) (pp_V (en_ok g) (q0 := 0) hK hP hD hS hA hE [0] rfl rfl rfl rfl) rfl rfl hl.1 rfl (lv_room (Nat.le_of_ble_eq_true rfl)) dK_feed_27 ⟨Nat.le_of_ble_eq_true rfl, Nat.le_of_ble_eq_true rfl⟩) (fun  pl H locs hu22 hP hD hS => ?_)
    obtain ⟨hq22, hO⟩ := hu22
    have hP : va_P g.1 vcl ([(h0, .inr (0, [.ref kt, .int (nI (tl + 4 + 4)), .ref ka, .int (nI al), .ref kp, .int (nI pn), .ref kks, .ref kds, .ref ksp, .ref kkm, .ref kda]))] ++ pl) _ := hP
    have hD : va_D _ ([(h0, .inr (0, [.ref kt, .int (nI (tl + 4 + 4)), .ref ka, .int (nI al), .ref kp, .int (nI pn), .ref kks, .ref kds, .ref ksp, .ref kkm, .ref kda]))] ++ pl) := hD
    refine W.widen (k := 0) (n := 0) (by omega) (by omega) ?_
    refine lv_aload_n hx hb dK_feed_30 rfl (lv_at hl 0 rfl) ?_
    refine lv_iload_n hx hb dK_feed_31 rfl (lv_at hl 3 rfl) ?_
    refine mp_v (cx := [(h0, .inr (0, [.ref kt, .int (nI (tl + 4 + 4)), .ref ka, .int (nI al), .ref kp, .int (nI pn), .ref kks, .ref kds, .ref ksp, .ref kkm, .ref kda]))]) (wr := []) hP hD hS hA [0] [] rfl rfl rfl (by decide) (va_runV (As := [.int v3]) (rest := []) F (t_K_writeNumber l g _ T  pl hO hU  v3 h0 kt ka kp kks kds ksp kkm kda (tl + 4 + 4) al pn k_kt k_ka k_kp k_kks k_kds k_ksp k_kkm k_kda (by omega) (by omega)) (cwV 1 hts (wg_app (wg_c kw_489 (wg_c kw_491 (wg_c ks_1 (wg_c kw_1 wg_n)))) kw_492) rfl rfl rfl (by decide +kernel) ⟨by decide, by decide⟩) (pp_V (en_ok g) (q0 := 0) hK hP hD hS hA hE [0] rfl rfl rfl rfl) rfl rfl hl.1 rfl (lv_room (Nat.le_of_ble_eq_true rfl)) dK_feed_32 ⟨Nat.le_of_ble_eq_true rfl, Nat.le_of_ble_eq_true rfl⟩) (fun  pl H locs hu23 hP hD hS => ?_)
    obtain ⟨hq23, hO⟩ := hu23
    have hP : va_P g.1 vcl ([(h0, .inr (0, [.ref kt, .int (nI (tl + 4 + 4 + 4)), .ref ka, .int (nI al), .ref kp, .int (nI pn), .ref kks, .ref kds, .ref ksp, .ref kkm, .ref kda]))] ++ pl) _ := hP
    have hD : va_D _ ([(h0, .inr (0, [.ref kt, .int (nI (tl + 4 + 4 + 4)), .ref ka, .int (nI al), .ref kp, .int (nI pn), .ref kks, .ref kds, .ref ksp, .ref kkm, .ref kda]))] ++ pl) := hD
    refine W.widen (k := 0) (n := 0) (by omega) (by omega) ?_
    refine lv_aload_n hx hb dK_feed_35 rfl (lv_at hl 0 rfl) ?_
    refine lv_iload hx hb dK_feed_36 (lv_at hl 4 rfl) ?_
    refine mp_v (cx := [(h0, .inr (0, [.ref kt, .int (nI (tl + 4 + 4 + 4)), .ref ka, .int (nI al), .ref kp, .int (nI pn), .ref kks, .ref kds, .ref ksp, .ref kkm, .ref kda]))]) (wr := []) hP hD hS hA [0] [] rfl rfl rfl (by decide) (va_runV (As := [.int v4]) (rest := []) F (t_K_writeNumber l g _ T  pl hO hU  v4 h0 kt ka kp kks kds ksp kkm kda (tl + 4 + 4 + 4) al pn k_kt k_ka k_kp k_kks k_kds k_ksp k_kkm k_kda (by omega) (by omega)) (cwV 1 hts (wg_app (wg_c kw_489 (wg_c kw_491 (wg_c ks_1 (wg_c kw_1 wg_n)))) kw_492) rfl rfl rfl (by decide +kernel) ⟨by decide, by decide⟩) (pp_V (en_ok g) (q0 := 0) hK hP hD hS hA hE [0] rfl rfl rfl rfl) rfl rfl hl.1 rfl (lv_room (Nat.le_of_ble_eq_true rfl)) dK_feed_38 ⟨Nat.le_of_ble_eq_true rfl, Nat.le_of_ble_eq_true rfl⟩) (fun  pl H locs hu24 hP hD hS => ?_)
    obtain ⟨hq24, hO⟩ := hu24
    have hP : va_P g.1 vcl ([(h0, .inr (0, [.ref kt, .int (nI (tl + 4 + 4 + 4 + 4)), .ref ka, .int (nI al), .ref kp, .int (nI pn), .ref kks, .ref kds, .ref ksp, .ref kkm, .ref kda]))] ++ pl) _ := hP
    have hD : va_D _ ([(h0, .inr (0, [.ref kt, .int (nI (tl + 4 + 4 + 4 + 4)), .ref ka, .int (nI al), .ref kp, .int (nI pn), .ref kks, .ref kds, .ref ksp, .ref kkm, .ref kda]))] ++ pl) := hD
    refine W.widen (k := 0) (n := 0) (by omega) (by omega) ?_
    refine lv_aload_n hx hb dK_feed_41 rfl (lv_at hl 0 rfl) ?_
    refine lv_iload hx hb dK_feed_42 (lv_at hl 5 rfl) ?_
    refine mp_v (cx := [(h0, .inr (0, [.ref kt, .int (nI (tl + 4 + 4 + 4 + 4)), .ref ka, .int (nI al), .ref kp, .int (nI pn), .ref kks, .ref kds, .ref ksp, .ref kkm, .ref kda]))]) (wr := []) hP hD hS hA [0] [] rfl rfl rfl (by decide) (va_runV (As := [.int v5]) (rest := []) F (t_K_writeNumber l g _ T  pl hO hU  v5 h0 kt ka kp kks kds ksp kkm kda (tl + 4 + 4 + 4 + 4) al pn k_kt k_ka k_kp k_kks k_kds k_ksp k_kkm k_kda (by omega) (by omega)) (cwV 1 hts (wg_app (wg_c kw_489 (wg_c kw_491 (wg_c ks_1 (wg_c kw_1 wg_n)))) kw_492) rfl rfl rfl (by decide +kernel) ⟨by decide, by decide⟩) (pp_V (en_ok g) (q0 := 0) hK hP hD hS hA hE [0] rfl rfl rfl rfl) rfl rfl hl.1 rfl (lv_room (Nat.le_of_ble_eq_true rfl)) dK_feed_44 ⟨Nat.le_of_ble_eq_true rfl, Nat.le_of_ble_eq_true rfl⟩) (fun  pl H locs hu25 hP hD hS => ?_)
    obtain ⟨hq25, hO⟩ := hu25
    have hP : va_P g.1 vcl ([(h0, .inr (0, [.ref kt, .int (nI (tl + 4 + 4 + 4 + 4 + 4)), .ref ka, .int (nI al), .ref kp, .int (nI pn), .ref kks, .ref kds, .ref ksp, .ref kkm, .ref kda]))] ++ pl) _ := hP
    have hD : va_D _ ([(h0, .inr (0, [.ref kt, .int (nI (tl + 4 + 4 + 4 + 4 + 4)), .ref ka, .int (nI al), .ref kp, .int (nI pn), .ref kks, .ref kds, .ref ksp, .ref kkm, .ref kda]))] ++ pl) := hD
    refine W.widen (k := 0) (n := 0) (by omega) (by omega) ?_
    refine lv_aload_n hx hb dK_feed_47 rfl (lv_at hl 0 rfl) ?_
    refine va_get (D := g.1) (ci := 0) (C := "LatticeKeys") (T := T_K) (N := 11) hx hb hts (wg_ft i_K) hown hK hP 0 rfl rfl 1 (by decide) (hts _ (wg_t kw_375)) (fun _ h9 => h9) rfl dK_feed_48 ?_
    refine et_ret ?_
    exact mp_iret hx hb hr hlk hP hD hS ((T, tl + 4 + 4 + 4 + 4 + 4, al, pn), pl) ⟨⟨⟨(by show tl + 4 + 4 + 4 + 4 + 4 ≤ 16384; omega), (by show al ≤ 8192; omega), (by show pn ≤ 8; omega), hXT, hU⟩, trivial⟩, hO⟩ [0] rfl rfl rfl (by omega) (by omega) dK_feed_51
  · exact et_throw (own := "LatticeKeys") (cls := "java/lang/IllegalStateException") (text := "no room on the tape") (names := ["java/lang/RuntimeException", "java/lang/Exception"]) (ik := 69) (is := 71) (ic := 73) hx hb htr ctr_ISE_0 ctr_ISE_1 ctr_ISE_2 ctr_ISE_5 hown (by decide) (by decide) (hts _ (wg_t kw_420)) (hts _ (wg_t kw_17)) (hX.2.2.2.2.2.1 0 ("LatticeKeys", 71, "no room on the tape") rfl) (hat_ISE hts hX.2) hS.1 (hl.1.trans hml.symm) dK_feed_10 dK_feed_13 dK_feed_14 dK_feed_16 dK_feed_19 htab (Nat.le_of_ble_eq_true rfl) (Nat.le_of_ble_eq_true rfl) (Nat.le_of_ble_eq_true rfl) (Nat.le_of_ble_eq_true rfl) hlk (Nat.le_of_ble_eq_true rfl) (Nat.le_of_ble_eq_true rfl) List.mem_cons_self hS.2.2 (thr_st hX.2) (fun t hz9 hk9 => ⟨⟨((T, tl, al, pn), pl), ⟨⟨⟨(by show tl ≤ 16384; omega), (by show al ≤ 8192; omega), (by show pn ≤ 8; omega), hXT, hU⟩, trivial⟩, hO⟩, lc_P hP hk9, hD⟩, (lc_S hS hz9 hk9).F rfl⟩)
set_option maxHeartbeats 4000000 in
set_option maxRecDepth 100000 in
theorem e_K_end (l : Launch) (htr : l.stackTraces = false) (g : Gd) (sz : Nat) (T : Ty) (pl : va_W) (hO : okx g T [] pl) (hU : uni T) (v : Int32) (h0 kt ka kp kks kds ksp kkm kda tl al pn : Nat) (k_kt : T kt = some (1, 16384)) (k_ka : T ka = some (1, 8192)) (k_kp : T kp = some (6, 0)) (k_kks : T kks = some (50, 0)) (k_kds : T kds = some (51, 0)) (k_ksp : T ksp = some (10, 0)) (k_kkm : T kkm = some (13, 0)) (k_kda : T kda = some (15, 0)) (hb : tl ≤ 16384 ∧ al ≤ 8192 ∧ pn ≤ 8)  : etMet l y_K_end w_K_end ({ frames := 6, cells := 1, slots := 6, locals := 90 } : Room) (va_Pc [.ref h0, .int v] (pr (ex g) g.1 vcl sz ([(h0, .inr (0, [.ref kt, .int (nI tl), .ref ka, .int (nI al), .ref kp, .int (nI pn), .ref kks, .ref kds, .ref ksp, .ref kkm, .ref kda]))] ++ pl))) ["java/lang/IllegalArgumentException"] (va_Qi (fun (r : Int32) (u : (Ty × Nat × Nat × Nat) × va_W) => ((u.1.2.1 ≤ 16384 ∧ u.1.2.2.1 ≤ 8192 ∧ u.1.2.2.2 ≤ 8 ∧ ext T u.1.1 ∧ uni u.1.1) ∧ (True)) ∧ okx g u.1.1 [] u.2) (po g.1 vcl (va_A ([(h0, .inr (0, [.ref kt, .int (nI tl), .ref ka, .int (nI al), .ref kp, .int (nI pn), .ref kks, .ref kds, .ref ksp, .ref kkm, .ref kda]))] ++ pl) sz) (fun (u : (Ty × Nat × Nat × Nat) × va_W) => [(h0, .inr (0, [.ref kt, .int (nI (u.1.2.1)), .ref ka, .int (nI (u.1.2.2.1)), .ref kp, .int (nI (u.1.2.2.2)), .ref kks, .ref kds, .ref ksp, .ref kkm, .ref kda]))] ++ u.2)) (va_A ([(h0, .inr (0, [.ref kt, .int (nI tl), .ref ka, .int (nI al), .ref kp, .int (nI pn), .ref kks, .ref kds, .ref ksp, .ref kkm, .ref kda]))] ++ pl) sz)) (xtP (fun (u : (Ty × Nat × Nat × Nat) × va_W) => ((u.1.2.1 ≤ 16384 ∧ u.1.2.2.1 ≤ 8192 ∧ u.1.2.2.2 ≤ 8 ∧ ext T u.1.1 ∧ uni u.1.1) ∧ (True)) ∧ okx g u.1.1 [] u.2) (po g.1 vcl (va_A ([(h0, .inr (0, [.ref kt, .int (nI tl), .ref ka, .int (nI al), .ref kp, .int (nI pn), .ref kks, .ref kds, .ref ksp, .ref kkm, .ref kda]))] ++ pl) sz) (fun (u : (Ty × Nat × Nat × Nat) × va_W) => [(h0, .inr (0, [.ref kt, .int (nI (u.1.2.1)), .ref ka, .int (nI (u.1.2.2.1)), .ref kp, .int (nI (u.1.2.2.2)), .ref kks, .ref kds, .ref ksp, .ref kkm, .ref kda]))] ++ u.2)) (va_A ([(h0, .inr (0, [.ref kt, .int (nI tl), .ref ka, .int (nI al), .ref kp, .int (nI pn), .ref kks, .ref kds, .ref ksp, .ref kkm, .ref kda]))] ++ pl) sz)) 1 6 (va_A ([(h0, .inr (0, [.ref kt, .int (nI tl), .ref ka, .int (nI al), .ref kp, .int (nI pn), .ref kks, .ref kds, .ref ksp, .ref kkm, .ref kda]))] ++ pl) sz) := by
  refine et_entry (cc := c_K_end) (maxL := 2) (ret := (some .int)) (by decide) rfl (Nat.le_of_ble_eq_true rfl) ?_
  intro p e s m args below meth c ls F hr hlk htab hsz hP hD hX hA hl
  obtain ⟨hx, hb, hml, hown, hts⟩ := id F
  have hE := hX.1
  have hK := hE.1
  generalize va_A ([(h0, .inr (0, [.ref kt, .int (nI tl), .ref ka, .int (nI al), .ref kp, .int (nI pn), .ref kks, .ref kds, .ref ksp, .ref kkm, .ref kda]))] ++ pl) sz = A at hD hX hE hA ⊢
  have hXT : ext T T := ext_rf
  have hS : va_S A s.heap s.heap [] := va_S.rf
  have hl : lv_has ls 2 [(0, .ref h0), (1, .int v)] := hl
  refine lv_iload_n hx hb dK_end_0 rfl (lv_at hl 1 rfl) ?_
  refine lv_if_lt (tgt := 12) hx hb dK_end_1 (by decide) (fun h21 => ?_) (fun h21 => ?_)
  · exact et_throw (own := "LatticeKeys") (cls := "java/lang/IllegalArgumentException") (text := "the tape is not so long") (names := ["java/lang/RuntimeException", "java/lang/Exception"]) (ik := 79) (is := 81) (ic := 83) hx hb htr ctr_IAE_0 ctr_IAE_1 ctr_IAE_2 ctr_IAE_5 hown (by decide) (by decide) (hts _ (wg_t kw_501)) (hts _ (wg_t kw_18)) (hX.2.2.2.2.2.1 1 ("LatticeKeys", 81, "the tape is not so long") rfl) (hat_IAE hts hX.2) hS.1 (hl.1.trans hml.symm) dK_end_12 dK_end_15 dK_end_16 dK_end_18 dK_end_21 htab (Nat.le_of_ble_eq_true rfl) (Nat.le_of_ble_eq_true rfl) (Nat.le_of_ble_eq_true rfl) (Nat.le_of_ble_eq_true rfl) hlk (Nat.le_of_ble_eq_true rfl) (Nat.le_of_ble_eq_true rfl) List.mem_cons_self hS.2.2 (thr_st hX.2) (fun t hz9 hk9 => ⟨⟨((T, tl, al, pn), pl), ⟨⟨⟨(by show tl ≤ 16384; omega), (by show al ≤ 8192; omega), (by show pn ≤ 8; omega), hXT, hU⟩, trivial⟩, hO⟩, lc_P hP hk9, hD⟩, (lc_S hS hz9 hk9).F rfl⟩)
  · refine lv_iload_n hx hb dK_end_4 rfl (lv_at hl 1 rfl) ?_
    refine lv_aload_n hx hb dK_end_5 rfl (lv_at hl 0 rfl) ?_
    refine va_get (D := g.1) (ci := 0) (C := "LatticeKeys") (T := T_K) (N := 11) hx hb hts (wg_ft i_K) hown hK hP 0 rfl rfl 1 (by decide) (hts _ (wg_t kw_375)) (fun _ h9 => h9) rfl dK_end_6 ?_
    refine lv_icmp_le (tgt := 22) hx hb dK_end_9 (by decide) (fun h22 => ?_) (fun h22 => ?_)
    · obtain ⟨z21, hz21, rfl⟩ := i32_le h21 (by omega) h22
      refine lv_aload_n hx hb dK_end_22 rfl (lv_at hl 0 rfl) ?_
      refine lv_iload_n hx hb dK_end_23 rfl (lv_at hl 1 rfl) ?_
      refine va_put (D := g.1) (ci := 0) (v := .int (nI z21)) (ty := .int) (C := "LatticeKeys") (T := T_K) (N := 11) hx hb hts (wg_ft i_K) ty_K k_K n_K hown hK hP hD hS 0 rfl rfl 1 (by decide) (hts _ (wg_t kw_375)) (fun _ h9 => h9) rfl (by decide +kernel) rfl rfl (Nat.le_of_ble_eq_true rfl) dK_end_24 (fun H locs hP hD hS => ?_)
      have hP : va_P g.1 vcl ([(h0, .inr (0, [.ref kt, .int (nI z21), .ref ka, .int (nI al), .ref kp, .int (nI pn), .ref kks, .ref kds, .ref ksp, .ref kkm, .ref kda]))] ++ pl) _ := hP
      have hD : va_D _ ([(h0, .inr (0, [.ref kt, .int (nI z21), .ref ka, .int (nI al), .ref kp, .int (nI pn), .ref kks, .ref kds, .ref ksp, .ref kkm, .ref kda]))] ++ pl) := hD
      refine lv_iload_n hx hb dK_end_27 rfl (lv_at hl 1 rfl) ?_
      refine et_ret ?_
      exact mp_iret hx hb hr hlk hP hD hS ((T, z21, al, pn), pl) ⟨⟨⟨(by show z21 ≤ 16384; omega), (by show al ≤ 8192; omega), (by show pn ≤ 8; omega), hXT, hU⟩, trivial⟩, hO⟩ [0] rfl rfl rfl (by omega) (by omega) dK_end_28
    · exact et_throw (own := "LatticeKeys") (cls := "java/lang/IllegalArgumentException") (text := "the tape is not so long") (names := ["java/lang/RuntimeException", "java/lang/Exception"]) (ik := 79) (is := 81) (ic := 83) hx hb htr ctr_IAE_0 ctr_IAE_1 ctr_IAE_2 ctr_IAE_5 hown (by decide) (by decide) (hts _ (wg_t kw_501)) (hts _ (wg_t kw_18)) (hX.2.2.2.2.2.1 1 ("LatticeKeys", 81, "the tape is not so long") rfl) (hat_IAE hts hX.2) hS.1 (hl.1.trans hml.symm) dK_end_12 dK_end_15 dK_end_16 dK_end_18 dK_end_21 htab (Nat.le_of_ble_eq_true rfl) (Nat.le_of_ble_eq_true rfl) (Nat.le_of_ble_eq_true rfl) (Nat.le_of_ble_eq_true rfl) hlk (Nat.le_of_ble_eq_true rfl) (Nat.le_of_ble_eq_true rfl) List.mem_cons_self hS.2.2 (thr_st hX.2) (fun t hz9 hk9 => ⟨⟨((T, tl, al, pn), pl), ⟨⟨⟨(by show tl ≤ 16384; omega), (by show al ≤ 8192; omega), (by show pn ≤ 8; omega), hXT, hU⟩, trivial⟩, hO⟩, lc_P hP hk9, hD⟩, (lc_S hS hz9 hk9).F rfl⟩)
set_option maxHeartbeats 4000000 in
set_option maxRecDepth 100000 in
theorem e_K_again (l : Launch) (htr : l.stackTraces = false) (g : Gd) (sz : Nat) (T : Ty) (pl : va_W) (hO : okx g T [] pl) (hU : uni T) (h0 kt ka kp kks kds ksp kkm kda tl al pn : Nat) (k_kt : T kt = some (1, 16384)) (k_ka : T ka = some (1, 8192)) (k_kp : T kp = some (6, 0)) (k_kks : T kks = some (50, 0)) (k_kds : T kds = some (51, 0)) (k_ksp : T ksp = some (10, 0)) (k_kkm : T kkm = some (13, 0)) (k_kda : T kda = some (15, 0)) (hb : tl ≤ 16384 ∧ al ≤ 8192 ∧ pn ≤ 8)  : etMet l y_K_again w_K_again ({ frames := 6, cells := 1, slots := 6, locals := 90 } : Room) (va_Pc [.ref h0] (pr (ex g) g.1 vcl sz ([(h0, .inr (0, [.ref kt, .int (nI tl), .ref ka, .int (nI al), .ref kp, .int (nI pn), .ref kks, .ref kds, .ref ksp, .ref kkm, .ref kda]))] ++ pl))) ["java/lang/IllegalStateException"] (va_Qi (fun (r : Int32) (u : (Ty × Nat × Nat × Nat) × va_W) => ((u.1.2.1 ≤ 16384 ∧ u.1.2.2.1 ≤ 8192 ∧ u.1.2.2.2 ≤ 8 ∧ ext T u.1.1 ∧ uni u.1.1) ∧ (True)) ∧ okx g u.1.1 [] u.2) (po g.1 vcl (va_A ([(h0, .inr (0, [.ref kt, .int (nI tl), .ref ka, .int (nI al), .ref kp, .int (nI pn), .ref kks, .ref kds, .ref ksp, .ref kkm, .ref kda]))] ++ pl) sz) (fun (u : (Ty × Nat × Nat × Nat) × va_W) => [(h0, .inr (0, [.ref kt, .int (nI (u.1.2.1)), .ref ka, .int (nI (u.1.2.2.1)), .ref kp, .int (nI (u.1.2.2.2)), .ref kks, .ref kds, .ref ksp, .ref kkm, .ref kda]))] ++ u.2)) (va_A ([(h0, .inr (0, [.ref kt, .int (nI tl), .ref ka, .int (nI al), .ref kp, .int (nI pn), .ref kks, .ref kds, .ref ksp, .ref kkm, .ref kda]))] ++ pl) sz)) (xtP (fun (u : (Ty × Nat × Nat × Nat) × va_W) => ((u.1.2.1 ≤ 16384 ∧ u.1.2.2.1 ≤ 8192 ∧ u.1.2.2.2 ≤ 8 ∧ ext T u.1.1 ∧ uni u.1.1) ∧ (True)) ∧ okx g u.1.1 [] u.2) (po g.1 vcl (va_A ([(h0, .inr (0, [.ref kt, .int (nI tl), .ref ka, .int (nI al), .ref kp, .int (nI pn), .ref kks, .ref kds, .ref ksp, .ref kkm, .ref kda]))] ++ pl) sz) (fun (u : (Ty × Nat × Nat × Nat) × va_W) => [(h0, .inr (0, [.ref kt, .int (nI (u.1.2.1)), .ref ka, .int (nI (u.1.2.2.1)), .ref kp, .int (nI (u.1.2.2.2)), .ref kks, .ref kds, .ref ksp, .ref kkm, .ref kda]))] ++ u.2)) (va_A ([(h0, .inr (0, [.ref kt, .int (nI tl), .ref ka, .int (nI al), .ref kp, .int (nI pn), .ref kks, .ref kds, .ref ksp, .ref kkm, .ref kda]))] ++ pl) sz)) 1 6 (va_A ([(h0, .inr (0, [.ref kt, .int (nI tl), .ref ka, .int (nI al), .ref kp, .int (nI pn), .ref kks, .ref kds, .ref ksp, .ref kkm, .ref kda]))] ++ pl) sz) := by
  refine et_entry (cc := c_K_again) (maxL := 1) (ret := (some .int)) (by decide) rfl (Nat.le_of_ble_eq_true rfl) ?_
  intro p e s m args below meth c ls F hr hlk htab hsz hP hD hX hA hl
  obtain ⟨hx, hb, hml, hown, hts⟩ := id F
  have hE := hX.1
  have hK := hE.1
  generalize va_A ([(h0, .inr (0, [.ref kt, .int (nI tl), .ref ka, .int (nI al), .ref kp, .int (nI pn), .ref kks, .ref kds, .ref ksp, .ref kkm, .ref kda]))] ++ pl) sz = A at hD hX hE hA ⊢
  have hXT : ext T T := ext_rf
  have hS : va_S A s.heap s.heap [] := va_S.rf
  have hl : lv_has ls 1 [(0, .ref h0)] := hl
  refine lv_aload_n hx hb dK_again_0 rfl (lv_at hl 0 rfl) ?_
  refine va_get (D := g.1) (ci := 0) (C := "LatticeKeys") (T := T_K) (N := 11) hx hb hts (wg_ft i_K) hown hK hP 0 rfl rfl 3 (by decide) (hts _ (wg_t kw_377)) (fun _ h9 => h9) rfl dK_again_1 ?_
  refine lv_sipush (v := nI 16384) hx hb dK_again_4 (by decide) ?_
  refine lv_aload_n hx hb dK_again_7 rfl (lv_at hl 0 rfl) ?_
  refine va_get (D := g.1) (ci := 0) (C := "LatticeKeys") (T := T_K) (N := 11) hx hb hts (wg_ft i_K) hown hK hP 0 rfl rfl 1 (by decide) (hts _ (wg_t kw_375)) (fun _ h9 => h9) rfl dK_again_8 ?_
  refine mi_isub hx hb dK_again_11 (by omega) ?_
  refine mi_le (tgt := 25) hx hb dK_again_12 (by decide) (by omega) (by omega) (fun h21 => ?_) (fun h21 => ?_)
  · refine lv_aload_n hx hb dK_again_25 rfl (lv_at hl 0 rfl) ?_
    refine va_get (D := g.1) (ci := 0) (C := "LatticeKeys") (T := T_K) (N := 11) hx hb hts (wg_ft i_K) hown hK hP 0 rfl rfl 2 (by decide) (hts _ (wg_t kw_376)) (fun _ h9 => h9) rfl dK_again_26 ?_
    refine lv_iconst (v := nI 0) hx hb dK_again_29 (by decide) ?_
    refine lv_aload_n hx hb dK_again_30 rfl (lv_at hl 0 rfl) ?_
    refine va_get (D := g.1) (ci := 0) (C := "LatticeKeys") (T := T_K) (N := 11) hx hb hts (wg_ft i_K) hown hK hP 0 rfl rfl 0 (by decide) (hts _ (wg_t kw_374)) (fun _ h9 => h9) rfl dK_again_31 ?_
    refine lv_aload_n hx hb dK_again_34 rfl (lv_at hl 0 rfl) ?_
    refine va_get (D := g.1) (ci := 0) (C := "LatticeKeys") (T := T_K) (N := 11) hx hb hts (wg_ft i_K) hown hK hP 0 rfl rfl 1 (by decide) (hts _ (wg_t kw_375)) (fun _ h9 => h9) rfl dK_again_35 ?_
    refine lv_aload_n hx hb dK_again_38 rfl (lv_at hl 0 rfl) ?_
    refine va_get (D := g.1) (ci := 0) (C := "LatticeKeys") (T := T_K) (N := 11) hx hb hts (wg_ft i_K) hown hK hP 0 rfl rfl 3 (by decide) (hts _ (wg_t kw_377)) (fun _ h9 => h9) rfl dK_again_39 ?_
    refine ty_copyb11 hx hb (hml.trans hl.1.symm) hown (hts _ (wg_t kw_524)) (hts _ (wg_t kw_526)) (hts _ (wg_t kw_525)) (hts _ (wg_t kw_19)) hK hO k_ka (nxg clo_nil k_ka rfl) k_kt (nxg clo_nil k_kt rfl) hP hD hS (sp := 0) (dp := tl) (n := al) (by omega) (by omega) (by omega) (by decide) (Nat.le_of_ble_eq_true rfl) dK_again_42 (fun pl H locs hO hP hD hS => ?_)
    refine lv_aload_n hx hb dK_again_45 rfl (lv_at hl 0 rfl) ?_
    refine lv_dup hx hb dK_again_46 rfl ?_
    refine va_get (D := g.1) (ci := 0) (C := "LatticeKeys") (T := T_K) (N := 11) hx hb hts (wg_ft i_K) hown hK hP 0 rfl rfl 1 (by decide) (hts _ (wg_t kw_375)) (fun _ h9 => h9) rfl dK_again_47 ?_
    refine lv_aload_n hx hb dK_again_50 rfl (lv_at hl 0 rfl) ?_
    refine va_get (D := g.1) (ci := 0) (C := "LatticeKeys") (T := T_K) (N := 11) hx hb hts (wg_ft i_K) hown hK hP 0 rfl rfl 3 (by decide) (hts _ (wg_t kw_377)) (fun _ h9 => h9) rfl dK_again_51 ?_
    refine mi_iadd hx hb dK_again_54 ?_
    refine va_put (D := g.1) (ci := 0) (v := .int (nI (tl + al))) (ty := .int) (C := "LatticeKeys") (T := T_K) (N := 11) hx hb hts (wg_ft i_K) ty_K k_K n_K hown hK hP hD hS 0 rfl rfl 1 (by decide) (hts _ (wg_t kw_375)) (fun _ h9 => h9) rfl (by decide +kernel) rfl rfl (Nat.le_of_ble_eq_true rfl) dK_again_55 (fun H locs hP hD hS => ?_)
    have hP : va_P g.1 vcl ([(h0, .inr (0, [.ref kt, .int (nI (tl + al)), .ref ka, .int (nI al), .ref kp, .int (nI pn), .ref kks, .ref kds, .ref ksp, .ref kkm, .ref kda]))] ++ pl) _ := hP
    have hD : va_D _ ([(h0, .inr (0, [.ref kt, .int (nI (tl + al)), .ref ka, .int (nI al), .ref kp, .int (nI pn), .ref kks, .ref kds, .ref ksp, .ref kkm, .ref kda]))] ++ pl) := hD
    refine lv_aload_n hx hb dK_again_58 rfl (lv_at hl 0 rfl) ?_
    refine va_get (D := g.1) (ci := 0) (C := "LatticeKeys") (T := T_K) (N := 11) hx hb hts (wg_ft i_K) hown hK hP 0 rfl rfl 1 (by decide) (hts _ (wg_t kw_375)) (fun _ h9 => h9) rfl dK_again_59 ?_
    refine et_ret ?_
    exact mp_iret hx hb hr hlk hP hD hS ((T, tl + al, al, pn), pl) ⟨⟨⟨(by show tl + al ≤ 16384; omega), (by show al ≤ 8192; omega), (by show pn ≤ 8; omega), hXT, hU⟩, trivial⟩, hO⟩ [0] rfl rfl rfl (by omega) (by omega) dK_again_62
  · exact et_throw (own := "LatticeKeys") (cls := "java/lang/IllegalStateException") (text := "no room on the tape") (names := ["java/lang/RuntimeException", "java/lang/Exception"]) (ik := 69) (is := 71) (ic := 73) hx hb htr ctr_ISE_0 ctr_ISE_1 ctr_ISE_2 ctr_ISE_5 hown (by decide) (by decide) (hts _ (wg_t kw_420)) (hts _ (wg_t kw_17)) (hX.2.2.2.2.2.1 0 ("LatticeKeys", 71, "no room on the tape") rfl) (hat_ISE hts hX.2) hS.1 (hl.1.trans hml.symm) dK_again_15 dK_again_18 dK_again_19 dK_again_21 dK_again_24 htab (Nat.le_of_ble_eq_true rfl) (Nat.le_of_ble_eq_true rfl) (Nat.le_of_ble_eq_true rfl) (Nat.le_of_ble_eq_true rfl) hlk (Nat.le_of_ble_eq_true rfl) (Nat.le_of_ble_eq_true rfl) List.mem_cons_self hS.2.2 (thr_st hX.2) (fun t hz9 hk9 => ⟨⟨((T, tl, al, pn), pl), ⟨⟨⟨(by show tl ≤ 16384; omega), (by show al ≤ 8192; omega), (by show pn ≤ 8; omega), hXT, hU⟩, trivial⟩, hO⟩, lc_P hP hk9, hD⟩, (lc_S hS hz9 hk9).F rfl⟩)
set_option maxHeartbeats 4000000 in
set_option maxRecDepth 100000 in
theorem e_K_alter (l : Launch) (htr : l.stackTraces = false) (g : Gd) (sz : Nat) (T : Ty) (pl : va_W) (hO : okx g T [] pl) (hU : uni T) (v : Int32) (v2 : Int32) (h0 kt ka kp kks kds ksp kkm kda tl al pn : Nat) (k_kt : T kt = some (1, 16384)) (k_ka : T ka = some (1, 8192)) (k_kp : T kp = some (6, 0)) (k_kks : T kks = some (50, 0)) (k_kds : T kds = some (51, 0)) (k_ksp : T ksp = some (10, 0)) (k_kkm : T kkm = some (13, 0)) (k_kda : T kda = some (15, 0)) (hb : tl ≤ 16384 ∧ al ≤ 8192 ∧ pn ≤ 8)  : etMet l y_K_alter w_K_alter ({ frames := 6, cells := 1, slots := 6, locals := 90 } : Room) (va_Pc [.ref h0, .int v, .int v2] (pr (ex g) g.1 vcl sz ([(h0, .inr (0, [.ref kt, .int (nI tl), .ref ka, .int (nI al), .ref kp, .int (nI pn), .ref kks, .ref kds, .ref ksp, .ref kkm, .ref kda]))] ++ pl))) ["java/lang/IndexOutOfBoundsException"] (va_Qi (fun (r : Int32) (u : (Ty × Nat × Nat × Nat) × va_W) => ((u.1.2.1 ≤ 16384 ∧ u.1.2.2.1 ≤ 8192 ∧ u.1.2.2.2 ≤ 8 ∧ ext T u.1.1 ∧ uni u.1.1) ∧ (True)) ∧ okx g u.1.1 [] u.2) (po g.1 vcl (va_A ([(h0, .inr (0, [.ref kt, .int (nI tl), .ref ka, .int (nI al), .ref kp, .int (nI pn), .ref kks, .ref kds, .ref ksp, .ref kkm, .ref kda]))] ++ pl) sz) (fun (u : (Ty × Nat × Nat × Nat) × va_W) => [(h0, .inr (0, [.ref kt, .int (nI (u.1.2.1)), .ref ka, .int (nI (u.1.2.2.1)), .ref kp, .int (nI (u.1.2.2.2)), .ref kks, .ref kds, .ref ksp, .ref kkm, .ref kda]))] ++ u.2)) (va_A ([(h0, .inr (0, [.ref kt, .int (nI tl), .ref ka, .int (nI al), .ref kp, .int (nI pn), .ref kks, .ref kds, .ref ksp, .ref kkm, .ref kda]))] ++ pl) sz)) (xtP (fun (u : (Ty × Nat × Nat × Nat) × va_W) => ((u.1.2.1 ≤ 16384 ∧ u.1.2.2.1 ≤ 8192 ∧ u.1.2.2.2 ≤ 8 ∧ ext T u.1.1 ∧ uni u.1.1) ∧ (True)) ∧ okx g u.1.1 [] u.2) (po g.1 vcl (va_A ([(h0, .inr (0, [.ref kt, .int (nI tl), .ref ka, .int (nI al), .ref kp, .int (nI pn), .ref kks, .ref kds, .ref ksp, .ref kkm, .ref kda]))] ++ pl) sz) (fun (u : (Ty × Nat × Nat × Nat) × va_W) => [(h0, .inr (0, [.ref kt, .int (nI (u.1.2.1)), .ref ka, .int (nI (u.1.2.2.1)), .ref kp, .int (nI (u.1.2.2.2)), .ref kks, .ref kds, .ref ksp, .ref kkm, .ref kda]))] ++ u.2)) (va_A ([(h0, .inr (0, [.ref kt, .int (nI tl), .ref ka, .int (nI al), .ref kp, .int (nI pn), .ref kks, .ref kds, .ref ksp, .ref kkm, .ref kda]))] ++ pl) sz)) 1 6 (va_A ([(h0, .inr (0, [.ref kt, .int (nI tl), .ref ka, .int (nI al), .ref kp, .int (nI pn), .ref kks, .ref kds, .ref ksp, .ref kkm, .ref kda]))] ++ pl) sz) := by
  refine et_entry (cc := c_K_alter) (maxL := 3) (ret := (some .int)) (by decide) rfl (Nat.le_of_ble_eq_true rfl) ?_
  intro p e s m args below meth c ls F hr hlk htab hsz hP hD hX hA hl
  obtain ⟨hx, hb, hml, hown, hts⟩ := id F
  have hE := hX.1
  have hK := hE.1
  generalize va_A ([(h0, .inr (0, [.ref kt, .int (nI tl), .ref ka, .int (nI al), .ref kp, .int (nI pn), .ref kks, .ref kds, .ref ksp, .ref kkm, .ref kda]))] ++ pl) sz = A at hD hX hE hA ⊢
  have hXT : ext T T := ext_rf
  have hS : va_S A s.heap s.heap [] := va_S.rf
  have hl : lv_has ls 3 [(0, .ref h0), (1, .int v), (2, .int v2)] := hl
  refine lv_iload_n hx hb dK_alter_0 rfl (lv_at hl 1 rfl) ?_
  refine lv_if_lt (tgt := 12) hx hb dK_alter_1 (by decide) (fun h21 => ?_) (fun h21 => ?_)
  · exact et_throw (own := "LatticeKeys") (cls := "java/lang/IndexOutOfBoundsException") (text := "no such byte on the tape") (names := ["java/lang/RuntimeException", "java/lang/Exception"]) (ik := 90) (is := 92) (ic := 94) hx hb htr ctr_IOB_0 ctr_IOB_1 ctr_IOB_2 ctr_IOB_5 hown (by decide) (by decide) (hts _ (wg_t kw_535)) (hts _ (wg_t kw_20)) (hX.2.2.2.2.2.1 2 ("LatticeKeys", 92, "no such byte on the tape") rfl) (hat_IOB hts hX.2) hS.1 (hl.1.trans hml.symm) dK_alter_12 dK_alter_15 dK_alter_16 dK_alter_18 dK_alter_21 htab (Nat.le_of_ble_eq_true rfl) (Nat.le_of_ble_eq_true rfl) (Nat.le_of_ble_eq_true rfl) (Nat.le_of_ble_eq_true rfl) hlk (Nat.le_of_ble_eq_true rfl) (Nat.le_of_ble_eq_true rfl) List.mem_cons_self hS.2.2 (thr_st hX.2) (fun t hz9 hk9 => ⟨⟨((T, tl, al, pn), pl), ⟨⟨⟨(by show tl ≤ 16384; omega), (by show al ≤ 8192; omega), (by show pn ≤ 8; omega), hXT, hU⟩, trivial⟩, hO⟩, lc_P hP hk9, hD⟩, (lc_S hS hz9 hk9).F rfl⟩)
  · refine lv_iload_n hx hb dK_alter_4 rfl (lv_at hl 1 rfl) ?_
    refine lv_aload_n hx hb dK_alter_5 rfl (lv_at hl 0 rfl) ?_
    refine va_get (D := g.1) (ci := 0) (C := "LatticeKeys") (T := T_K) (N := 11) hx hb hts (wg_ft i_K) hown hK hP 0 rfl rfl 1 (by decide) (hts _ (wg_t kw_375)) (fun _ h9 => h9) rfl dK_alter_6 ?_
    refine lv_icmp_lt (tgt := 22) hx hb dK_alter_9 (by decide) (fun h22 => ?_) (fun h22 => ?_)
    · obtain ⟨z21, hz21, rfl⟩ := i32_ltc h21 (by omega) h22
      refine lv_aload_n hx hb dK_alter_22 rfl (lv_at hl 0 rfl) ?_
      refine va_get (D := g.1) (ci := 0) (C := "LatticeKeys") (T := T_K) (N := 11) hx hb hts (wg_ft i_K) hown hK hP 0 rfl rfl 0 (by decide) (hts _ (wg_t kw_374)) (fun _ h9 => h9) rfl dK_alter_23 ?_
      refine lv_iload_n hx hb dK_alter_26 rfl (lv_at hl 1 rfl) ?_
      refine lv_dup2_11 hx hb dK_alter_27 rfl rfl ?_
      refine ty_bald hx hb hK hO k_kt (nxg clo_nil k_kt rfl) hP (vp_in_nI (by omega) (by decide)) dK_alter_28 (fun z22 => ?_)
      refine lv_iload_n hx hb dK_alter_29 rfl (lv_at hl 2 rfl) ?_
      refine lv_i2b hx hb dK_alter_30 rfl ?_
      refine mi_any (fun z23 => ?_)
      refine lv_ixor hx hb dK_alter_31 ?_
      refine mi_any (fun z24 => ?_)
      refine lv_i2b hx hb dK_alter_32 rfl ?_
      refine mi_any (fun z25 => ?_)
      refine ty_bast hx hb hK hO k_kt (nxg clo_nil k_kt rfl) hP hD hS (vp_in_nI (by omega) (by decide)) dK_alter_33 (fun pl H locs hO hP hD hS => ?_)
      refine lv_aload_n hx hb dK_alter_34 rfl (lv_at hl 0 rfl) ?_
      refine va_get (D := g.1) (ci := 0) (C := "LatticeKeys") (T := T_K) (N := 11) hx hb hts (wg_ft i_K) hown hK hP 0 rfl rfl 0 (by decide) (hts _ (wg_t kw_374)) (fun _ h9 => h9) rfl dK_alter_35 ?_
      refine lv_iload_n hx hb dK_alter_38 rfl (lv_at hl 1 rfl) ?_
      refine ty_bald hx hb hK hO k_kt (nxg clo_nil k_kt rfl) hP (vp_in_nI (by omega) (by decide)) dK_alter_39 (fun z26 => ?_)
      refine lv_sipush (v := nI 255) hx hb dK_alter_40 (by decide) ?_
      refine mi_iand hx hb 8 dK_alter_43 (by decide) (fun z27 hz22 => ?_)
      have hz22 : z27 < 256 := hz22
      refine et_ret ?_
      exact mp_iret hx hb hr hlk hP hD hS ((T, tl, al, pn), pl) ⟨⟨⟨(by show tl ≤ 16384; omega), (by show al ≤ 8192; omega), (by show pn ≤ 8; omega), hXT, hU⟩, trivial⟩, hO⟩ [0] rfl rfl rfl (by omega) (by omega) dK_alter_44
    · exact et_throw (own := "LatticeKeys") (cls := "java/lang/IndexOutOfBoundsException") (text := "no such byte on the tape") (names := ["java/lang/RuntimeException", "java/lang/Exception"]) (ik := 90) (is := 92) (ic := 94) hx hb htr ctr_IOB_0 ctr_IOB_1 ctr_IOB_2 ctr_IOB_5 hown (by decide) (by decide) (hts _ (wg_t kw_535)) (hts _ (wg_t kw_20)) (hX.2.2.2.2.2.1 2 ("LatticeKeys", 92, "no such byte on the tape") rfl) (hat_IOB hts hX.2) hS.1 (hl.1.trans hml.symm) dK_alter_12 dK_alter_15 dK_alter_16 dK_alter_18 dK_alter_21 htab (Nat.le_of_ble_eq_true rfl) (Nat.le_of_ble_eq_true rfl) (Nat.le_of_ble_eq_true rfl) (Nat.le_of_ble_eq_true rfl) hlk (Nat.le_of_ble_eq_true rfl) (Nat.le_of_ble_eq_true rfl) List.mem_cons_self hS.2.2 (thr_st hX.2) (fun t hz9 hk9 => ⟨⟨((T, tl, al, pn), pl), ⟨⟨⟨(by show tl ≤ 16384; omega), (by show al ≤ 8192; omega), (by show pn ≤ 8; omega), hXT, hU⟩, trivial⟩, hO⟩, lc_P hP hk9, hD⟩, (lc_S hS hz9 hk9).F rfl⟩)
set_option maxHeartbeats 4000000 in
set_option maxRecDepth 100000 in
theorem e_K_part (l : Launch) (htr : l.stackTraces = false) (g : Gd) (sz : Nat) (T : Ty) (pl : va_W) (hO : okx g T [] pl) (hU : uni T) (v : Int32) (sc : Int32) (v3 : Int32) (h0 kt ka kp kks kds ksp kkm kda tl al pn : Nat) (k_kt : T kt = some (1, 16384)) (k_ka : T ka = some (1, 8192)) (k_kp : T kp = some (6, 0)) (k_kks : T kks = some (50, 0)) (k_kds : T kds = some (51, 0)) (k_ksp : T ksp = some (10, 0)) (k_kkm : T kkm = some (13, 0)) (k_kda : T kda = some (15, 0)) (hb : tl ≤ 16384 ∧ al ≤ 8192 ∧ pn ≤ 8)  : etMet l y_K_part w_K_part ({ frames := 6, cells := 1, slots := 6, locals := 90 } : Room) (va_Pc [.ref h0, .int v, .int sc, .int v3] (pr (ex g) g.1 vcl sz ([(h0, .inr (0, [.ref kt, .int (nI tl), .ref ka, .int (nI al), .ref kp, .int (nI pn), .ref kks, .ref kds, .ref ksp, .ref kkm, .ref kda]))] ++ pl))) ["java/util/NoSuchElementException", "java/lang/IndexOutOfBoundsException"] (va_Qi (fun (r : Int32) (u : (Ty × Nat × Nat × Nat) × va_W) => ((u.1.2.1 ≤ 16384 ∧ u.1.2.2.1 ≤ 8192 ∧ u.1.2.2.2 ≤ 8 ∧ ext T u.1.1 ∧ uni u.1.1) ∧ (True)) ∧ okx g u.1.1 [] u.2) (po g.1 vcl (va_A ([(h0, .inr (0, [.ref kt, .int (nI tl), .ref ka, .int (nI al), .ref kp, .int (nI pn), .ref kks, .ref kds, .ref ksp, .ref kkm, .ref kda]))] ++ pl) sz) (fun (u : (Ty × Nat × Nat × Nat) × va_W) => [(h0, .inr (0, [.ref kt, .int (nI (u.1.2.1)), .ref ka, .int (nI (u.1.2.2.1)), .ref kp, .int (nI (u.1.2.2.2)), .ref kks, .ref kds, .ref ksp, .ref kkm, .ref kda]))] ++ u.2)) (va_A ([(h0, .inr (0, [.ref kt, .int (nI tl), .ref ka, .int (nI al), .ref kp, .int (nI pn), .ref kks, .ref kds, .ref ksp, .ref kkm, .ref kda]))] ++ pl) sz)) (xtP (fun (u : (Ty × Nat × Nat × Nat) × va_W) => ((u.1.2.1 ≤ 16384 ∧ u.1.2.2.1 ≤ 8192 ∧ u.1.2.2.2 ≤ 8 ∧ ext T u.1.1 ∧ uni u.1.1) ∧ (True)) ∧ okx g u.1.1 [] u.2) (po g.1 vcl (va_A ([(h0, .inr (0, [.ref kt, .int (nI tl), .ref ka, .int (nI al), .ref kp, .int (nI pn), .ref kks, .ref kds, .ref ksp, .ref kkm, .ref kda]))] ++ pl) sz) (fun (u : (Ty × Nat × Nat × Nat) × va_W) => [(h0, .inr (0, [.ref kt, .int (nI (u.1.2.1)), .ref ka, .int (nI (u.1.2.2.1)), .ref kp, .int (nI (u.1.2.2.2)), .ref kks, .ref kds, .ref ksp, .ref kkm, .ref kda]))] ++ u.2)) (va_A ([(h0, .inr (0, [.ref kt, .int (nI tl), .ref ka, .int (nI al), .ref kp, .int (nI pn), .ref kks, .ref kds, .ref ksp, .ref kkm, .ref kda]))] ++ pl) sz)) 1 6 (va_A ([(h0, .inr (0, [.ref kt, .int (nI tl), .ref ka, .int (nI al), .ref kp, .int (nI pn), .ref kks, .ref kds, .ref ksp, .ref kkm, .ref kda]))] ++ pl) sz) := by
  refine et_entry (cc := c_K_part) (maxL := 5) (ret := (some .int)) (by decide) rfl (Nat.le_of_ble_eq_true rfl) ?_
  intro p e s m args below meth c ls F hr hlk htab hsz hP hD hX hA hl
  obtain ⟨hx, hb, hml, hown, hts⟩ := id F
  have hE := hX.1
  have hK := hE.1
  generalize va_A ([(h0, .inr (0, [.ref kt, .int (nI tl), .ref ka, .int (nI al), .ref kp, .int (nI pn), .ref kks, .ref kds, .ref ksp, .ref kkm, .ref kda]))] ++ pl) sz = A at hD hX hE hA ⊢
  have hXT : ext T T := ext_rf
  have hS : va_S A s.heap s.heap [] := va_S.rf
  have hl : lv_has ls 5 [(0, .ref h0), (1, .int v), (2, .int sc), (3, .int v3)] := hl
  refine lv_aload_n hx hb dK_part_0 rfl (lv_at hl 0 rfl) ?_
  refine lv_iload_n hx hb dK_part_1 rfl (lv_at hl 1 rfl) ?_
  refine lv_iload_n hx hb dK_part_2 rfl (lv_at hl 2 rfl) ?_
  refine mp_q (cx := [(h0, .inr (0, [.ref kt, .int (nI tl), .ref ka, .int (nI al), .ref kp, .int (nI pn), .ref kks, .ref kds, .ref ksp, .ref kkm, .ref kda]))]) (wr := []) hP hD hS hA [0] [] rfl rfl rfl (by decide) (va_runV (As := [.int v, .int sc]) (rest := []) F (t_K_partOf l g _ T  pl hO hU  v sc h0 kt ka kp kks kds ksp kkm kda tl al pn k_kt k_ka k_kp k_kks k_kds k_ksp k_kkm k_kda (by omega)) (cwV 2 hts (wg_app (wg_c kw_1056 (wg_c kw_1058 (wg_c ks_23 (wg_c kw_1 wg_n)))) kw_1059) rfl rfl rfl (by decide +kernel) ⟨by decide, by decide⟩) (pp_V (en_ok g) (q0 := 0) hK hP hD hS hA hE [0] rfl rfl rfl rfl) rfl rfl hl.1 rfl (lv_room (Nat.le_of_ble_eq_true rfl)) dK_part_3 ⟨Nat.le_of_ble_eq_true rfl, Nat.le_of_ble_eq_true rfl⟩) (fun r21 pl H locs hu21 hP hD hS => ?_)
  obtain ⟨hq21, hO⟩ := hu21
  have hP : va_P g.1 vcl ([(h0, .inr (0, [.ref kt, .int (nI tl), .ref ka, .int (nI al), .ref kp, .int (nI pn), .ref kks, .ref kds, .ref ksp, .ref kkm, .ref kda]))] ++ pl) _ := hP
  have hD : va_D _ ([(h0, .inr (0, [.ref kt, .int (nI tl), .ref ka, .int (nI al), .ref kp, .int (nI pn), .ref kks, .ref kds, .ref ksp, .ref kkm, .ref kda]))] ++ pl) := hD
  refine W.widen (k := 0) (n := 0) (by omega) (by omega) ?_
  match r21, hq21 with
  | none, _ =>
    refine lv_astoreN (lv' := [(4, .null), (0, .ref h0), (1, .int v), (2, .int sc), (3, .int v3)]) hx hb dK_part_6 hl (by decide) rfl (fun ls hl => ?_)
    refine lv_aloadN hx hb dK_part_8 (lv_at hl 0 rfl) ?_
    refine lv_ifnonnullN hx hb dK_part_10 ?_
    exact et_throw (own := "LatticeKeys") (cls := "java/util/NoSuchElementException") (text := "no such keys or part") (names := ["java/lang/RuntimeException", "java/lang/Exception"]) (ik := 156) (is := 158) (ic := 160) hx hb htr ctr_NSE_0 ctr_NSE_1 ctr_NSE_2 ctr_NSE_5 hown (by decide) (by decide) (hts _ (wg_t kw_1064)) (hts _ (wg_t kw_34)) (hX.2.2.2.2.2.1 7 ("LatticeKeys", 158, "no such keys or part") rfl) (hat_NSE hts hX.2) hS.1 (hl.1.trans hml.symm) dK_part_13 dK_part_16 dK_part_17 dK_part_19 dK_part_22 htab (Nat.le_of_ble_eq_true rfl) (Nat.le_of_ble_eq_true rfl) (Nat.le_of_ble_eq_true rfl) (Nat.le_of_ble_eq_true rfl) hlk (Nat.le_of_ble_eq_true rfl) (Nat.le_of_ble_eq_true rfl) List.mem_cons_self hS.2.2 (thr_st hX.2) (fun t hz9 hk9 => ⟨⟨((T, tl, al, pn), pl), ⟨⟨⟨(by show tl ≤ 16384; omega), (by show al ≤ 8192; omega), (by show pn ≤ 8; omega), hXT, hU⟩, trivial⟩, hO⟩, lc_P hP hk9, hD⟩, (lc_S hS hz9 hk9).F rfl⟩)
  | some q21, hq9 =>
    obtain ⟨n21, hn21, kr21⟩ := hq9 q21 rfl
    refine lv_astore (lv' := [(4, .ref q21), (0, .ref h0), (1, .int v), (2, .int sc), (3, .int v3)]) hx hb dK_part_6 hl (by decide) rfl (fun ls hl => ?_)
    refine lv_aload hx hb dK_part_8 (lv_at hl 0 rfl) ?_
    refine lv_ifnonnull (tgt := 23) hx hb dK_part_10 (by decide) ?_
    refine lv_iload_n hx hb dK_part_23 rfl (lv_at hl 4 rfl) ?_
    refine lv_if_lt (tgt := 34) hx hb dK_part_24 (by decide) (fun h21 => ?_) (fun h21 => ?_)
    · exact et_throw (own := "LatticeKeys") (cls := "java/lang/IndexOutOfBoundsException") (text := "no such byte in the part") (names := ["java/lang/RuntimeException", "java/lang/Exception"]) (ik := 90) (is := 161) (ic := 94) hx hb htr ctr_IOB_0 ctr_IOB_1 ctr_IOB_2 ctr_IOB_5 hown (by decide) (by decide) (hts _ (wg_t kw_535)) (hts _ (wg_t kw_20)) (hX.2.2.2.2.2.1 8 ("LatticeKeys", 161, "no such byte in the part") rfl) (hat_IOB hts hX.2) hS.1 (hl.1.trans hml.symm) dK_part_34 dK_part_37 dK_part_38 dK_part_40 dK_part_43 htab (Nat.le_of_ble_eq_true rfl) (Nat.le_of_ble_eq_true rfl) (Nat.le_of_ble_eq_true rfl) (Nat.le_of_ble_eq_true rfl) hlk (Nat.le_of_ble_eq_true rfl) (Nat.le_of_ble_eq_true rfl) (List.mem_cons_of_mem _ List.mem_cons_self) hS.2.2 (thr_st hX.2) (fun t hz9 hk9 => ⟨⟨((T, tl, al, pn), pl), ⟨⟨⟨(by show tl ≤ 16384; omega), (by show al ≤ 8192; omega), (by show pn ≤ 8; omega), hXT, hU⟩, trivial⟩, hO⟩, lc_P hP hk9, hD⟩, (lc_S hS hz9 hk9).F rfl⟩)
    · refine lv_iload_n hx hb dK_part_27 rfl (lv_at hl 4 rfl) ?_
      refine lv_aload hx hb dK_part_28 (lv_at hl 0 rfl) ?_
      refine ty_alen1 hx hb hK hO kr21 (nxg clo_nil kr21 rfl) hP dK_part_30 ?_
      refine lv_icmp_lt (tgt := 44) hx hb dK_part_31 (by decide) (fun h22 => ?_) (fun h22 => ?_)
      · obtain ⟨z21, hz21, rfl⟩ := i32_ltc h21 (by omega) h22
        refine lv_aload hx hb dK_part_44 (lv_at hl 0 rfl) ?_
        refine lv_iload_n hx hb dK_part_46 rfl (lv_at hl 4 rfl) ?_
        refine ty_bald hx hb hK hO kr21 (nxg clo_nil kr21 rfl) hP (vp_in_nI (by omega) (by omega)) dK_part_47 (fun z22 => ?_)
        refine lv_sipush (v := nI 255) hx hb dK_part_48 (by decide) ?_
        refine mi_iand hx hb 8 dK_part_51 (by decide) (fun z23 hz22 => ?_)
        have hz22 : z23 < 256 := hz22
        refine et_ret ?_
        exact mp_iret hx hb hr hlk hP hD hS ((T, tl, al, pn), pl) ⟨⟨⟨(by show tl ≤ 16384; omega), (by show al ≤ 8192; omega), (by show pn ≤ 8; omega), hXT, hU⟩, trivial⟩, hO⟩ [0] rfl rfl rfl (by omega) (by omega) dK_part_52
      · exact et_throw (own := "LatticeKeys") (cls := "java/lang/IndexOutOfBoundsException") (text := "no such byte in the part") (names := ["java/lang/RuntimeException", "java/lang/Exception"]) (ik := 90) (is := 161) (ic := 94) hx hb htr ctr_IOB_0 ctr_IOB_1 ctr_IOB_2 ctr_IOB_5 hown (by decide) (by decide) (hts _ (wg_t kw_535)) (hts _ (wg_t kw_20)) (hX.2.2.2.2.2.1 8 ("LatticeKeys", 161, "no such byte in the part") rfl) (hat_IOB hts hX.2) hS.1 (hl.1.trans hml.symm) dK_part_34 dK_part_37 dK_part_38 dK_part_40 dK_part_43 htab (Nat.le_of_ble_eq_true rfl) (Nat.le_of_ble_eq_true rfl) (Nat.le_of_ble_eq_true rfl) (Nat.le_of_ble_eq_true rfl) hlk (Nat.le_of_ble_eq_true rfl) (Nat.le_of_ble_eq_true rfl) (List.mem_cons_of_mem _ List.mem_cons_self) hS.2.2 (thr_st hX.2) (fun t hz9 hk9 => ⟨⟨((T, tl, al, pn), pl), ⟨⟨⟨(by show tl ≤ 16384; omega), (by show al ≤ 8192; omega), (by show pn ≤ 8; omega), hXT, hU⟩, trivial⟩, hO⟩, lc_P hP hk9, hD⟩, (lc_S hS hz9 hk9).F rfl⟩)
set_option maxHeartbeats 4000000 in
set_option maxRecDepth 100000 in
theorem e_K_show (l : Launch) (htr : l.stackTraces = false) (g : Gd) (sz : Nat) (T : Ty) (pl : va_W) (hO : okx g T [] pl) (hU : uni T) (v : Int32) (sc : Int32) (h0 kt ka kp kks kds ksp kkm kda tl al pn : Nat) (k_kt : T kt = some (1, 16384)) (k_ka : T ka = some (1, 8192)) (k_kp : T kp = some (6, 0)) (k_kks : T kks = some (50, 0)) (k_kds : T kds = some (51, 0)) (k_ksp : T ksp = some (10, 0)) (k_kkm : T kkm = some (13, 0)) (k_kda : T kda = some (15, 0)) (hb : tl ≤ 16384 ∧ al ≤ 8192 ∧ pn ≤ 8)  : etMet l y_K_show w_K_show ({ frames := 6, cells := 1, slots := 6, locals := 90 } : Room) (va_Pc [.ref h0, .int v, .int sc] (pr (ex g) g.1 vcl sz ([(h0, .inr (0, [.ref kt, .int (nI tl), .ref ka, .int (nI al), .ref kp, .int (nI pn), .ref kks, .ref kds, .ref ksp, .ref kkm, .ref kda]))] ++ pl))) ["java/util/NoSuchElementException"] (va_Qi (fun (r : Int32) (u : (Ty × Nat × Nat × Nat) × va_W) => ((u.1.2.1 ≤ 16384 ∧ u.1.2.2.1 ≤ 8192 ∧ u.1.2.2.2 ≤ 8 ∧ ext T u.1.1 ∧ uni u.1.1) ∧ (True)) ∧ okx g u.1.1 [] u.2) (po g.1 vcl (va_A ([(h0, .inr (0, [.ref kt, .int (nI tl), .ref ka, .int (nI al), .ref kp, .int (nI pn), .ref kks, .ref kds, .ref ksp, .ref kkm, .ref kda]))] ++ pl) sz) (fun (u : (Ty × Nat × Nat × Nat) × va_W) => [(h0, .inr (0, [.ref kt, .int (nI (u.1.2.1)), .ref ka, .int (nI (u.1.2.2.1)), .ref kp, .int (nI (u.1.2.2.2)), .ref kks, .ref kds, .ref ksp, .ref kkm, .ref kda]))] ++ u.2)) (va_A ([(h0, .inr (0, [.ref kt, .int (nI tl), .ref ka, .int (nI al), .ref kp, .int (nI pn), .ref kks, .ref kds, .ref ksp, .ref kkm, .ref kda]))] ++ pl) sz)) (xtP (fun (u : (Ty × Nat × Nat × Nat) × va_W) => ((u.1.2.1 ≤ 16384 ∧ u.1.2.2.1 ≤ 8192 ∧ u.1.2.2.2 ≤ 8 ∧ ext T u.1.1 ∧ uni u.1.1) ∧ (True)) ∧ okx g u.1.1 [] u.2) (po g.1 vcl (va_A ([(h0, .inr (0, [.ref kt, .int (nI tl), .ref ka, .int (nI al), .ref kp, .int (nI pn), .ref kks, .ref kds, .ref ksp, .ref kkm, .ref kda]))] ++ pl) sz) (fun (u : (Ty × Nat × Nat × Nat) × va_W) => [(h0, .inr (0, [.ref kt, .int (nI (u.1.2.1)), .ref ka, .int (nI (u.1.2.2.1)), .ref kp, .int (nI (u.1.2.2.2)), .ref kks, .ref kds, .ref ksp, .ref kkm, .ref kda]))] ++ u.2)) (va_A ([(h0, .inr (0, [.ref kt, .int (nI tl), .ref ka, .int (nI al), .ref kp, .int (nI pn), .ref kks, .ref kds, .ref ksp, .ref kkm, .ref kda]))] ++ pl) sz)) 1 6 (va_A ([(h0, .inr (0, [.ref kt, .int (nI tl), .ref ka, .int (nI al), .ref kp, .int (nI pn), .ref kks, .ref kds, .ref ksp, .ref kkm, .ref kda]))] ++ pl) sz) := by
  refine et_entry (cc := c_K_show) (maxL := 4) (ret := (some .int)) (by decide) rfl (Nat.le_of_ble_eq_true rfl) ?_
  intro p e s m args below meth c ls F hr hlk htab hsz hP hD hX hA hl
  obtain ⟨hx, hb, hml, hown, hts⟩ := id F
  have hE := hX.1
  have hK := hE.1
  generalize va_A ([(h0, .inr (0, [.ref kt, .int (nI tl), .ref ka, .int (nI al), .ref kp, .int (nI pn), .ref kks, .ref kds, .ref ksp, .ref kkm, .ref kda]))] ++ pl) sz = A at hD hX hE hA ⊢
  have hXT : ext T T := ext_rf
  have hS : va_S A s.heap s.heap [] := va_S.rf
  have hl : lv_has ls 4 [(0, .ref h0), (1, .int v), (2, .int sc)] := hl
  refine lv_aload_n hx hb dK_show_0 rfl (lv_at hl 0 rfl) ?_
  refine lv_iload_n hx hb dK_show_1 rfl (lv_at hl 1 rfl) ?_
  refine lv_iload_n hx hb dK_show_2 rfl (lv_at hl 2 rfl) ?_
  refine mp_q (cx := [(h0, .inr (0, [.ref kt, .int (nI tl), .ref ka, .int (nI al), .ref kp, .int (nI pn), .ref kks, .ref kds, .ref ksp, .ref kkm, .ref kda]))]) (wr := []) hP hD hS hA [0] [] rfl rfl rfl (by decide) (va_runV (As := [.int v, .int sc]) (rest := []) F (t_K_partOf l g _ T  pl hO hU  v sc h0 kt ka kp kks kds ksp kkm kda tl al pn k_kt k_ka k_kp k_kks k_kds k_ksp k_kkm k_kda (by omega)) (cwV 2 hts (wg_app (wg_c kw_1056 (wg_c kw_1058 (wg_c ks_23 (wg_c kw_1 wg_n)))) kw_1059) rfl rfl rfl (by decide +kernel) ⟨by decide, by decide⟩) (pp_V (en_ok g) (q0 := 0) hK hP hD hS hA hE [0] rfl rfl rfl rfl) rfl rfl hl.1 rfl (lv_room (Nat.le_of_ble_eq_true rfl)) dK_show_3 ⟨Nat.le_of_ble_eq_true rfl, Nat.le_of_ble_eq_true rfl⟩) (fun r21 pl H locs hu21 hP hD hS => ?_)
  obtain ⟨hq21, hO⟩ := hu21
  have hP : va_P g.1 vcl ([(h0, .inr (0, [.ref kt, .int (nI tl), .ref ka, .int (nI al), .ref kp, .int (nI pn), .ref kks, .ref kds, .ref ksp, .ref kkm, .ref kda]))] ++ pl) _ := hP
  have hD : va_D _ ([(h0, .inr (0, [.ref kt, .int (nI tl), .ref ka, .int (nI al), .ref kp, .int (nI pn), .ref kks, .ref kds, .ref ksp, .ref kkm, .ref kda]))] ++ pl) := hD
  refine W.widen (k := 0) (n := 0) (by omega) (by omega) ?_
  match r21, hq21 with
  | none, _ =>
    refine lv_astore_nN (lv' := [(3, .null), (0, .ref h0), (1, .int v), (2, .int sc)]) hx hb dK_show_6 rfl hl (by decide) rfl (fun ls hl => ?_)
    refine lv_aload_nN hx hb dK_show_7 rfl (lv_at hl 0 rfl) ?_
    refine lv_ifnonnullN hx hb dK_show_8 ?_
    exact et_throw (own := "LatticeKeys") (cls := "java/util/NoSuchElementException") (text := "no such keys or part") (names := ["java/lang/RuntimeException", "java/lang/Exception"]) (ik := 156) (is := 158) (ic := 160) hx hb htr ctr_NSE_0 ctr_NSE_1 ctr_NSE_2 ctr_NSE_5 hown (by decide) (by decide) (hts _ (wg_t kw_1064)) (hts _ (wg_t kw_34)) (hX.2.2.2.2.2.1 7 ("LatticeKeys", 158, "no such keys or part") rfl) (hat_NSE hts hX.2) hS.1 (hl.1.trans hml.symm) dK_show_11 dK_show_14 dK_show_15 dK_show_17 dK_show_20 htab (Nat.le_of_ble_eq_true rfl) (Nat.le_of_ble_eq_true rfl) (Nat.le_of_ble_eq_true rfl) (Nat.le_of_ble_eq_true rfl) hlk (Nat.le_of_ble_eq_true rfl) (Nat.le_of_ble_eq_true rfl) List.mem_cons_self hS.2.2 (thr_st hX.2) (fun t hz9 hk9 => ⟨⟨((T, tl, al, pn), pl), ⟨⟨⟨(by show tl ≤ 16384; omega), (by show al ≤ 8192; omega), (by show pn ≤ 8; omega), hXT, hU⟩, trivial⟩, hO⟩, lc_P hP hk9, hD⟩, (lc_S hS hz9 hk9).F rfl⟩)
  | some q21, hq9 =>
    obtain ⟨n21, hn21, kr21⟩ := hq9 q21 rfl
    refine lv_astore_n (lv' := [(3, .ref q21), (0, .ref h0), (1, .int v), (2, .int sc)]) hx hb dK_show_6 rfl hl (by decide) rfl (fun ls hl => ?_)
    refine lv_aload_n hx hb dK_show_7 rfl (lv_at hl 0 rfl) ?_
    refine lv_ifnonnull (tgt := 21) hx hb dK_show_8 (by decide) ?_
    refine lv_aload_n hx hb dK_show_21 rfl (lv_at hl 0 rfl) ?_
    refine lv_iconst (v := nI 0) hx hb dK_show_22 (by decide) ?_
    refine lv_aload_n hx hb dK_show_23 rfl (lv_at hl 1 rfl) ?_
    refine va_get (D := g.1) (ci := 0) (C := "LatticeKeys") (T := T_K) (N := 11) hx hb hts (wg_ft i_K) hown hK hP 0 rfl rfl 2 (by decide) (hts _ (wg_t kw_376)) (fun _ h9 => h9) rfl dK_show_24 ?_
    refine lv_iconst (v := nI 0) hx hb dK_show_27 (by decide) ?_
    refine lv_aload_n hx hb dK_show_28 rfl (lv_at hl 0 rfl) ?_
    refine ty_alen1 hx hb hK hO kr21 (nxg clo_nil kr21 rfl) hP dK_show_29 ?_
    refine ty_copyb11 hx hb (hml.trans hl.1.symm) hown (hts _ (wg_t kw_524)) (hts _ (wg_t kw_526)) (hts _ (wg_t kw_525)) (hts _ (wg_t kw_19)) hK hO kr21 (nxg clo_nil kr21 rfl) k_ka (nxg clo_nil k_ka rfl) hP hD hS (sp := 0) (dp := 0) (n := n21) (by omega) (by omega) (by omega) (by decide) (Nat.le_of_ble_eq_true rfl) dK_show_30 (fun pl H locs hO hP hD hS => ?_)
    refine lv_aload_n hx hb dK_show_33 rfl (lv_at hl 1 rfl) ?_
    refine lv_aload_n hx hb dK_show_34 rfl (lv_at hl 0 rfl) ?_
    refine ty_alen1 hx hb hK hO kr21 (nxg clo_nil kr21 rfl) hP dK_show_35 ?_
    refine va_put (D := g.1) (ci := 0) (v := .int (nI n21)) (ty := .int) (C := "LatticeKeys") (T := T_K) (N := 11) hx hb hts (wg_ft i_K) ty_K k_K n_K hown hK hP hD hS 0 rfl rfl 3 (by decide) (hts _ (wg_t kw_377)) (fun _ h9 => h9) rfl (by decide +kernel) rfl rfl (Nat.le_of_ble_eq_true rfl) dK_show_36 (fun H locs hP hD hS => ?_)
    have hP : va_P g.1 vcl ([(h0, .inr (0, [.ref kt, .int (nI tl), .ref ka, .int (nI n21), .ref kp, .int (nI pn), .ref kks, .ref kds, .ref ksp, .ref kkm, .ref kda]))] ++ pl) _ := hP
    have hD : va_D _ ([(h0, .inr (0, [.ref kt, .int (nI tl), .ref ka, .int (nI n21), .ref kp, .int (nI pn), .ref kks, .ref kds, .ref ksp, .ref kkm, .ref kda]))] ++ pl) := hD
    refine lv_aload_n hx hb dK_show_39 rfl (lv_at hl 1 rfl) ?_
    refine va_get (D := g.1) (ci := 0) (C := "LatticeKeys") (T := T_K) (N := 11) hx hb hts (wg_ft i_K) hown hK hP 0 rfl rfl 3 (by decide) (hts _ (wg_t kw_377)) (fun _ h9 => h9) rfl dK_show_40 ?_
    refine et_ret ?_
    exact mp_iret hx hb hr hlk hP hD hS ((T, tl, n21, pn), pl) ⟨⟨⟨(by show tl ≤ 16384; omega), (by show n21 ≤ 8192; omega), (by show pn ≤ 8; omega), hXT, hU⟩, trivial⟩, hO⟩ [0] rfl rfl rfl (by omega) (by omega) dK_show_43
set_option maxHeartbeats 4000000 in
set_option maxRecDepth 100000 in
theorem e_K_told (l : Launch) (htr : l.stackTraces = false) (g : Gd) (sz : Nat) (T : Ty) (pl : va_W) (hO : okx g T [] pl) (hU : uni T) (v : Int32) (v2 : Int32) (h0 kt ka kp kks kds ksp kkm kda tl al pn : Nat) (k_kt : T kt = some (1, 16384)) (k_ka : T ka = some (1, 8192)) (k_kp : T kp = some (6, 0)) (k_kks : T kks = some (50, 0)) (k_kds : T kds = some (51, 0)) (k_ksp : T ksp = some (10, 0)) (k_kkm : T kkm = some (13, 0)) (k_kda : T kda = some (15, 0)) (hb : tl ≤ 16384 ∧ al ≤ 8192 ∧ pn ≤ 8)  : etMet l y_K_told w_K_told ({ frames := 6, cells := 1, slots := 6, locals := 90 } : Room) (va_Pc [.ref h0, .int v, .int v2] (pr (ex g) g.1 vcl sz ([(h0, .inr (0, [.ref kt, .int (nI tl), .ref ka, .int (nI al), .ref kp, .int (nI pn), .ref kks, .ref kds, .ref ksp, .ref kkm, .ref kda]))] ++ pl))) ["java/util/NoSuchElementException", "java/lang/IllegalArgumentException"] (va_Qi (fun (r : Int32) (u : (Ty × Nat × Nat × Nat) × va_W) => ((u.1.2.1 ≤ 16384 ∧ u.1.2.2.1 ≤ 8192 ∧ u.1.2.2.2 ≤ 8 ∧ ext T u.1.1 ∧ uni u.1.1) ∧ (True)) ∧ okx g u.1.1 [] u.2) (po g.1 vcl (va_A ([(h0, .inr (0, [.ref kt, .int (nI tl), .ref ka, .int (nI al), .ref kp, .int (nI pn), .ref kks, .ref kds, .ref ksp, .ref kkm, .ref kda]))] ++ pl) sz) (fun (u : (Ty × Nat × Nat × Nat) × va_W) => [(h0, .inr (0, [.ref kt, .int (nI (u.1.2.1)), .ref ka, .int (nI (u.1.2.2.1)), .ref kp, .int (nI (u.1.2.2.2)), .ref kks, .ref kds, .ref ksp, .ref kkm, .ref kda]))] ++ u.2)) (va_A ([(h0, .inr (0, [.ref kt, .int (nI tl), .ref ka, .int (nI al), .ref kp, .int (nI pn), .ref kks, .ref kds, .ref ksp, .ref kkm, .ref kda]))] ++ pl) sz)) (xtP (fun (u : (Ty × Nat × Nat × Nat) × va_W) => ((u.1.2.1 ≤ 16384 ∧ u.1.2.2.1 ≤ 8192 ∧ u.1.2.2.2 ≤ 8 ∧ ext T u.1.1 ∧ uni u.1.1) ∧ (True)) ∧ okx g u.1.1 [] u.2) (po g.1 vcl (va_A ([(h0, .inr (0, [.ref kt, .int (nI tl), .ref ka, .int (nI al), .ref kp, .int (nI pn), .ref kks, .ref kds, .ref ksp, .ref kkm, .ref kda]))] ++ pl) sz) (fun (u : (Ty × Nat × Nat × Nat) × va_W) => [(h0, .inr (0, [.ref kt, .int (nI (u.1.2.1)), .ref ka, .int (nI (u.1.2.2.1)), .ref kp, .int (nI (u.1.2.2.2)), .ref kks, .ref kds, .ref ksp, .ref kkm, .ref kda]))] ++ u.2)) (va_A ([(h0, .inr (0, [.ref kt, .int (nI tl), .ref ka, .int (nI al), .ref kp, .int (nI pn), .ref kks, .ref kds, .ref ksp, .ref kkm, .ref kda]))] ++ pl) sz)) 1 6 (va_A ([(h0, .inr (0, [.ref kt, .int (nI tl), .ref ka, .int (nI al), .ref kp, .int (nI pn), .ref kks, .ref kds, .ref ksp, .ref kkm, .ref kda]))] ++ pl) sz) := by
  refine et_entry (cc := c_K_told) (maxL := 4) (ret := (some .int)) (by decide) rfl (Nat.le_of_ble_eq_true rfl) ?_
  intro p e s m args below meth c ls F hr hlk htab hsz hP hD hX hA hl
  obtain ⟨hx, hb, hml, hown, hts⟩ := id F
  have hE := hX.1
  have hK := hE.1
  generalize va_A ([(h0, .inr (0, [.ref kt, .int (nI tl), .ref ka, .int (nI al), .ref kp, .int (nI pn), .ref kks, .ref kds, .ref ksp, .ref kkm, .ref kda]))] ++ pl) sz = A at hD hX hE hA ⊢
  have hXT : ext T T := ext_rf
  have hS : va_S A s.heap s.heap [] := va_S.rf
  have hl : lv_has ls 4 [(0, .ref h0), (1, .int v), (2, .int v2)] := hl
  refine lv_aload_n hx hb dK_told_0 rfl (lv_at hl 0 rfl) ?_
  refine lv_iload_n hx hb dK_told_1 rfl (lv_at hl 1 rfl) ?_
  refine mp_q (cx := [(h0, .inr (0, [.ref kt, .int (nI tl), .ref ka, .int (nI al), .ref kp, .int (nI pn), .ref kks, .ref kds, .ref ksp, .ref kkm, .ref kda]))]) (wr := []) hP hD hS hA [0] [] rfl rfl rfl (by decide) (va_runV (As := [.int v]) (rest := []) F (t_K_find l g _ T  pl hO hU  v h0 kt ka kp kks kds ksp kkm kda tl al pn k_kt k_ka k_kp k_kks k_kds k_ksp k_kkm k_kda (by omega)) (cwV 1 hts (wg_app (wg_c kw_1060 (wg_c kw_1062 (wg_c ks_24 (wg_c kw_1 wg_n)))) kw_1063) rfl rfl rfl (by decide +kernel) ⟨by decide, by decide⟩) (pp_V (en_ok g) (q0 := 0) hK hP hD hS hA hE [0] rfl rfl rfl rfl) rfl rfl hl.1 rfl (lv_room (Nat.le_of_ble_eq_true rfl)) dK_told_2 ⟨Nat.le_of_ble_eq_true rfl, Nat.le_of_ble_eq_true rfl⟩) (fun r21 pl H locs hu21 hP hD hS => ?_)
  obtain ⟨hq21, hO⟩ := hu21
  have hP : va_P g.1 vcl ([(h0, .inr (0, [.ref kt, .int (nI tl), .ref ka, .int (nI al), .ref kp, .int (nI pn), .ref kks, .ref kds, .ref ksp, .ref kkm, .ref kda]))] ++ pl) _ := hP
  have hD : va_D _ ([(h0, .inr (0, [.ref kt, .int (nI tl), .ref ka, .int (nI al), .ref kp, .int (nI pn), .ref kks, .ref kds, .ref ksp, .ref kkm, .ref kda]))] ++ pl) := hD
  refine W.widen (k := 0) (n := 0) (by omega) (by omega) ?_
  match r21, hq21 with
  | none, _ =>
    refine lv_astore_nN (lv' := [(3, .null), (0, .ref h0), (1, .int v), (2, .int v2)]) hx hb dK_told_5 rfl hl (by decide) rfl (fun ls hl => ?_)
    refine lv_aload_nN hx hb dK_told_6 rfl (lv_at hl 0 rfl) ?_
    refine lv_ifnonnullN hx hb dK_told_7 ?_
    exact et_throw (own := "LatticeKeys") (cls := "java/util/NoSuchElementException") (text := "no such keys") (names := ["java/lang/RuntimeException", "java/lang/Exception"]) (ik := 156) (is := 166) (ic := 160) hx hb htr ctr_NSE_0 ctr_NSE_1 ctr_NSE_2 ctr_NSE_5 hown (by decide) (by decide) (hts _ (wg_t kw_1064)) (hts _ (wg_t kw_34)) (hX.2.2.2.2.2.1 9 ("LatticeKeys", 166, "no such keys") rfl) (hat_NSE hts hX.2) hS.1 (hl.1.trans hml.symm) dK_told_10 dK_told_13 dK_told_14 dK_told_16 dK_told_19 htab (Nat.le_of_ble_eq_true rfl) (Nat.le_of_ble_eq_true rfl) (Nat.le_of_ble_eq_true rfl) (Nat.le_of_ble_eq_true rfl) hlk (Nat.le_of_ble_eq_true rfl) (Nat.le_of_ble_eq_true rfl) List.mem_cons_self hS.2.2 (thr_st hX.2) (fun t hz9 hk9 => ⟨⟨((T, tl, al, pn), pl), ⟨⟨⟨(by show tl ≤ 16384; omega), (by show al ≤ 8192; omega), (by show pn ≤ 8; omega), hXT, hU⟩, trivial⟩, hO⟩, lc_P hP hk9, hD⟩, (lc_S hS hz9 hk9).F rfl⟩)
  | some q21, hq9 =>
    obtain ⟨s9, hs9, hk9⟩ := hq9 q21 rfl
    rcases hk9 with hk9 | hk9
    · match s9, hs9, hk9 with
      | 0, _, hk9 =>
        have kr21 : T q21 = some (17, 0) := hk9
        refine lv_astore_n (lv' := [(3, .ref q21), (0, .ref h0), (1, .int v), (2, .int v2)]) hx hb dK_told_5 rfl hl (by decide) rfl (fun ls hl => ?_)
        refine lv_aload_n hx hb dK_told_6 rfl (lv_at hl 0 rfl) ?_
        refine lv_ifnonnull (tgt := 20) hx hb dK_told_7 (by decide) ?_
        refine lv_iload_n hx hb dK_told_20 rfl (lv_at hl 3 rfl) ?_
        rcases rng (v := v2) 2 (by decide) with hb9 | hb9
        · obtain ⟨j9, hj9, rfl⟩ := hb9
          match j9, hj9 with
          | 0, _ =>
            refine lv_tableIn (off := 27) (tgt := 48) hx hb dK_told_21 (by decide) (by decide) (by decide) (by decide) ?_
            refine lv_aload_n hx hb dK_told_48 rfl (lv_at hl 0 rfl) ?_
            refine ty_get (ci := 13) (C := "LatticeKeys$KeyPair") (TT := T_KP) (N := 3) (kd := (17, 0)) hx hb hts (wg_ft i_KP) hown hK hO kr21 (nxg clo_nil kr21 rfl) hP (fun _ h9 => h9) rfl 0 (by decide) (hts _ (wg_t kw_746)) (fun _ h9 => h9) (cd := (1, 0, 0)) rfl dK_told_49 (fun v21 hv21 => ?_)
            obtain rfl := (show v21 = .int (nI 0) from hv21)
            refine et_ret ?_
            exact mp_iret hx hb hr hlk hP hD hS ((T, tl, al, pn), pl) ⟨⟨⟨(by show tl ≤ 16384; omega), (by show al ≤ 8192; omega), (by show pn ≤ 8; omega), hXT, hU⟩, trivial⟩, hO⟩ [0] rfl rfl rfl (by omega) (by omega) dK_told_52
          | 1, _ =>
            refine lv_tableIn (off := 32) (tgt := 53) hx hb dK_told_21 (by decide) (by decide) (by decide) (by decide) ?_
            refine lv_aload_n hx hb dK_told_53 rfl (lv_at hl 0 rfl) ?_
            refine ty_get (ci := 13) (C := "LatticeKeys$KeyPair") (TT := T_KP) (N := 3) (kd := (17, 0)) hx hb hts (wg_ft i_KP) hown hK hO kr21 (nxg clo_nil kr21 rfl) hP (fun _ h9 => h9) rfl 1 (by decide) (hts _ (wg_t kw_749)) (fun _ h9 => h9) (cd := (3, 1, 800)) rfl dK_told_54 (fun v22 hv22 => ?_)
            obtain ⟨r22, rfl, kr22⟩ := (show ∃ r : Nat, v22 = .ref r ∧ T r = some (1, 800) from hv22)
            refine ty_alen1 hx hb hK hO kr22 (nxg clo_nil kr22 rfl) hP dK_told_57 ?_
            refine et_ret ?_
            exact mp_iret hx hb hr hlk hP hD hS ((T, tl, al, pn), pl) ⟨⟨⟨(by show tl ≤ 16384; omega), (by show al ≤ 8192; omega), (by show pn ≤ 8; omega), hXT, hU⟩, trivial⟩, hO⟩ [0] rfl rfl rfl (by omega) (by omega) dK_told_58
          | 2, _ =>
            refine lv_tableIn (off := 38) (tgt := 59) hx hb dK_told_21 (by decide) (by decide) (by decide) (by decide) ?_
            refine lv_aload_n hx hb dK_told_59 rfl (lv_at hl 0 rfl) ?_
            refine ty_get (ci := 13) (C := "LatticeKeys$KeyPair") (TT := T_KP) (N := 3) (kd := (17, 0)) hx hb hts (wg_ft i_KP) hown hK hO kr21 (nxg clo_nil kr21 rfl) hP (fun _ h9 => h9) rfl 2 (by decide) (hts _ (wg_t kw_752)) (fun _ h9 => h9) (cd := (3, 1, 1632)) rfl dK_told_60 (fun v23 hv23 => ?_)
            obtain ⟨r23, rfl, kr23⟩ := (show ∃ r : Nat, v23 = .ref r ∧ T r = some (1, 1632) from hv23)
            refine lv_ifnonnull (tgt := 70) hx hb dK_told_63 (by decide) ?_
            refine lv_aload_n hx hb dK_told_70 rfl (lv_at hl 0 rfl) ?_
            refine ty_get (ci := 13) (C := "LatticeKeys$KeyPair") (TT := T_KP) (N := 3) (kd := (17, 0)) hx hb hts (wg_ft i_KP) hown hK hO kr21 (nxg clo_nil kr21 rfl) hP (fun _ h9 => h9) rfl 2 (by decide) (hts _ (wg_t kw_752)) (fun _ h9 => h9) (cd := (3, 1, 1632)) rfl dK_told_71 (fun v24 hv24 => ?_)
            obtain ⟨r24, rfl, kr24⟩ := (show ∃ r : Nat, v24 = .ref r ∧ T r = some (1, 1632) from hv24)
            refine ty_alen1 hx hb hK hO kr24 (nxg clo_nil kr24 rfl) hP dK_told_74 ?_
            refine et_ret ?_
            exact mp_iret hx hb hr hlk hP hD hS ((T, tl, al, pn), pl) ⟨⟨⟨(by show tl ≤ 16384; omega), (by show al ≤ 8192; omega), (by show pn ≤ 8; omega), hXT, hU⟩, trivial⟩, hO⟩ [0] rfl rfl rfl (by omega) (by omega) dK_told_75
          | _ + 3, h9 => exact absurd h9 (by omega)
        · refine lv_tableOut (tgt := 76) hx hb dK_told_21 (tout (by decide) hb9) (by decide) ?_
          exact et_throw (own := "LatticeKeys") (cls := "java/lang/IllegalArgumentException") (text := "nothing of that number is told") (names := ["java/lang/RuntimeException", "java/lang/Exception"]) (ik := 79) (is := 177) (ic := 83) hx hb htr ctr_IAE_0 ctr_IAE_1 ctr_IAE_2 ctr_IAE_5 hown (by decide) (by decide) (hts _ (wg_t kw_501)) (hts _ (wg_t kw_18)) (hX.2.2.2.2.2.1 10 ("LatticeKeys", 177, "nothing of that number is told") rfl) (hat_IAE hts hX.2) hS.1 (hl.1.trans hml.symm) dK_told_76 dK_told_79 dK_told_80 dK_told_82 dK_told_85 htab (Nat.le_of_ble_eq_true rfl) (Nat.le_of_ble_eq_true rfl) (Nat.le_of_ble_eq_true rfl) (Nat.le_of_ble_eq_true rfl) hlk (Nat.le_of_ble_eq_true rfl) (Nat.le_of_ble_eq_true rfl) (List.mem_cons_of_mem _ List.mem_cons_self) hS.2.2 (thr_st hX.2) (fun t hz9 hk9 => ⟨⟨((T, tl, al, pn), pl), ⟨⟨⟨(by show tl ≤ 16384; omega), (by show al ≤ 8192; omega), (by show pn ≤ 8; omega), hXT, hU⟩, trivial⟩, hO⟩, lc_P hP hk9, hD⟩, (lc_S hS hz9 hk9).F rfl⟩)
      | 1, _, hk9 =>
        have kr25 : T q21 = some (17, 1) := hk9
        refine lv_astore_n (lv' := [(3, .ref q21), (0, .ref h0), (1, .int v), (2, .int v2)]) hx hb dK_told_5 rfl hl (by decide) rfl (fun ls hl => ?_)
        refine lv_aload_n hx hb dK_told_6 rfl (lv_at hl 0 rfl) ?_
        refine lv_ifnonnull (tgt := 20) hx hb dK_told_7 (by decide) ?_
        refine lv_iload_n hx hb dK_told_20 rfl (lv_at hl 3 rfl) ?_
        rcases rng (v := v2) 2 (by decide) with hb9 | hb9
        · obtain ⟨j9, hj9, rfl⟩ := hb9
          match j9, hj9 with
          | 0, _ =>
            refine lv_tableIn (off := 27) (tgt := 48) hx hb dK_told_21 (by decide) (by decide) (by decide) (by decide) ?_
            refine lv_aload_n hx hb dK_told_48 rfl (lv_at hl 0 rfl) ?_
            refine ty_get (ci := 13) (C := "LatticeKeys$KeyPair") (TT := T_KP) (N := 3) (kd := (17, 1)) hx hb hts (wg_ft i_KP) hown hK hO kr25 (nxg clo_nil kr25 rfl) hP (fun _ h9 => h9) rfl 0 (by decide) (hts _ (wg_t kw_746)) (fun _ h9 => h9) (cd := (1, 0, 1)) rfl dK_told_49 (fun v25 hv25 => ?_)
            obtain rfl := (show v25 = .int (nI 1) from hv25)
            refine et_ret ?_
            exact mp_iret hx hb hr hlk hP hD hS ((T, tl, al, pn), pl) ⟨⟨⟨(by show tl ≤ 16384; omega), (by show al ≤ 8192; omega), (by show pn ≤ 8; omega), hXT, hU⟩, trivial⟩, hO⟩ [0] rfl rfl rfl (by omega) (by omega) dK_told_52
          | 1, _ =>
            refine lv_tableIn (off := 32) (tgt := 53) hx hb dK_told_21 (by decide) (by decide) (by decide) (by decide) ?_
            refine lv_aload_n hx hb dK_told_53 rfl (lv_at hl 0 rfl) ?_
            refine ty_get (ci := 13) (C := "LatticeKeys$KeyPair") (TT := T_KP) (N := 3) (kd := (17, 1)) hx hb hts (wg_ft i_KP) hown hK hO kr25 (nxg clo_nil kr25 rfl) hP (fun _ h9 => h9) rfl 1 (by decide) (hts _ (wg_t kw_749)) (fun _ h9 => h9) (cd := (3, 1, 1184)) rfl dK_told_54 (fun v26 hv26 => ?_)
            obtain ⟨r25, rfl, kr26⟩ := (show ∃ r : Nat, v26 = .ref r ∧ T r = some (1, 1184) from hv26)
            refine ty_alen1 hx hb hK hO kr26 (nxg clo_nil kr26 rfl) hP dK_told_57 ?_
            refine et_ret ?_
            exact mp_iret hx hb hr hlk hP hD hS ((T, tl, al, pn), pl) ⟨⟨⟨(by show tl ≤ 16384; omega), (by show al ≤ 8192; omega), (by show pn ≤ 8; omega), hXT, hU⟩, trivial⟩, hO⟩ [0] rfl rfl rfl (by omega) (by omega) dK_told_58
          | 2, _ =>
            refine lv_tableIn (off := 38) (tgt := 59) hx hb dK_told_21 (by decide) (by decide) (by decide) (by decide) ?_
            refine lv_aload_n hx hb dK_told_59 rfl (lv_at hl 0 rfl) ?_
            refine ty_get (ci := 13) (C := "LatticeKeys$KeyPair") (TT := T_KP) (N := 3) (kd := (17, 1)) hx hb hts (wg_ft i_KP) hown hK hO kr25 (nxg clo_nil kr25 rfl) hP (fun _ h9 => h9) rfl 2 (by decide) (hts _ (wg_t kw_752)) (fun _ h9 => h9) (cd := (3, 1, 2400)) rfl dK_told_60 (fun v27 hv27 => ?_)
            obtain ⟨r26, rfl, kr27⟩ := (show ∃ r : Nat, v27 = .ref r ∧ T r = some (1, 2400) from hv27)
            refine lv_ifnonnull (tgt := 70) hx hb dK_told_63 (by decide) ?_
            refine lv_aload_n hx hb dK_told_70 rfl (lv_at hl 0 rfl) ?_
            refine ty_get (ci := 13) (C := "LatticeKeys$KeyPair") (TT := T_KP) (N := 3) (kd := (17, 1)) hx hb hts (wg_ft i_KP) hown hK hO kr25 (nxg clo_nil kr25 rfl) hP (fun _ h9 => h9) rfl 2 (by decide) (hts _ (wg_t kw_752)) (fun _ h9 => h9) (cd := (3, 1, 2400)) rfl dK_told_71 (fun v28 hv28 => ?_)
            obtain ⟨r27, rfl, kr28⟩ := (show ∃ r : Nat, v28 = .ref r ∧ T r = some (1, 2400) from hv28)
            refine ty_alen1 hx hb hK hO kr28 (nxg clo_nil kr28 rfl) hP dK_told_74 ?_
            refine et_ret ?_
            exact mp_iret hx hb hr hlk hP hD hS ((T, tl, al, pn), pl) ⟨⟨⟨(by show tl ≤ 16384; omega), (by show al ≤ 8192; omega), (by show pn ≤ 8; omega), hXT, hU⟩, trivial⟩, hO⟩ [0] rfl rfl rfl (by omega) (by omega) dK_told_75
          | _ + 3, h9 => exact absurd h9 (by omega)
        · refine lv_tableOut (tgt := 76) hx hb dK_told_21 (tout (by decide) hb9) (by decide) ?_
          exact et_throw (own := "LatticeKeys") (cls := "java/lang/IllegalArgumentException") (text := "nothing of that number is told") (names := ["java/lang/RuntimeException", "java/lang/Exception"]) (ik := 79) (is := 177) (ic := 83) hx hb htr ctr_IAE_0 ctr_IAE_1 ctr_IAE_2 ctr_IAE_5 hown (by decide) (by decide) (hts _ (wg_t kw_501)) (hts _ (wg_t kw_18)) (hX.2.2.2.2.2.1 10 ("LatticeKeys", 177, "nothing of that number is told") rfl) (hat_IAE hts hX.2) hS.1 (hl.1.trans hml.symm) dK_told_76 dK_told_79 dK_told_80 dK_told_82 dK_told_85 htab (Nat.le_of_ble_eq_true rfl) (Nat.le_of_ble_eq_true rfl) (Nat.le_of_ble_eq_true rfl) (Nat.le_of_ble_eq_true rfl) hlk (Nat.le_of_ble_eq_true rfl) (Nat.le_of_ble_eq_true rfl) (List.mem_cons_of_mem _ List.mem_cons_self) hS.2.2 (thr_st hX.2) (fun t hz9 hk9 => ⟨⟨((T, tl, al, pn), pl), ⟨⟨⟨(by show tl ≤ 16384; omega), (by show al ≤ 8192; omega), (by show pn ≤ 8; omega), hXT, hU⟩, trivial⟩, hO⟩, lc_P hP hk9, hD⟩, (lc_S hS hz9 hk9).F rfl⟩)
      | 2, _, hk9 =>
        have kr29 : T q21 = some (17, 2) := hk9
        refine lv_astore_n (lv' := [(3, .ref q21), (0, .ref h0), (1, .int v), (2, .int v2)]) hx hb dK_told_5 rfl hl (by decide) rfl (fun ls hl => ?_)
        refine lv_aload_n hx hb dK_told_6 rfl (lv_at hl 0 rfl) ?_
        refine lv_ifnonnull (tgt := 20) hx hb dK_told_7 (by decide) ?_
        refine lv_iload_n hx hb dK_told_20 rfl (lv_at hl 3 rfl) ?_
        rcases rng (v := v2) 2 (by decide) with hb9 | hb9
        · obtain ⟨j9, hj9, rfl⟩ := hb9
          match j9, hj9 with
          | 0, _ =>
            refine lv_tableIn (off := 27) (tgt := 48) hx hb dK_told_21 (by decide) (by decide) (by decide) (by decide) ?_
            refine lv_aload_n hx hb dK_told_48 rfl (lv_at hl 0 rfl) ?_
            refine ty_get (ci := 13) (C := "LatticeKeys$KeyPair") (TT := T_KP) (N := 3) (kd := (17, 2)) hx hb hts (wg_ft i_KP) hown hK hO kr29 (nxg clo_nil kr29 rfl) hP (fun _ h9 => h9) rfl 0 (by decide) (hts _ (wg_t kw_746)) (fun _ h9 => h9) (cd := (1, 0, 2)) rfl dK_told_49 (fun v29 hv29 => ?_)
            obtain rfl := (show v29 = .int (nI 2) from hv29)
            refine et_ret ?_
            exact mp_iret hx hb hr hlk hP hD hS ((T, tl, al, pn), pl) ⟨⟨⟨(by show tl ≤ 16384; omega), (by show al ≤ 8192; omega), (by show pn ≤ 8; omega), hXT, hU⟩, trivial⟩, hO⟩ [0] rfl rfl rfl (by omega) (by omega) dK_told_52
          | 1, _ =>
            refine lv_tableIn (off := 32) (tgt := 53) hx hb dK_told_21 (by decide) (by decide) (by decide) (by decide) ?_
            refine lv_aload_n hx hb dK_told_53 rfl (lv_at hl 0 rfl) ?_
            refine ty_get (ci := 13) (C := "LatticeKeys$KeyPair") (TT := T_KP) (N := 3) (kd := (17, 2)) hx hb hts (wg_ft i_KP) hown hK hO kr29 (nxg clo_nil kr29 rfl) hP (fun _ h9 => h9) rfl 1 (by decide) (hts _ (wg_t kw_749)) (fun _ h9 => h9) (cd := (3, 1, 1568)) rfl dK_told_54 (fun v30 hv30 => ?_)
            obtain ⟨r28, rfl, kr30⟩ := (show ∃ r : Nat, v30 = .ref r ∧ T r = some (1, 1568) from hv30)
            refine ty_alen1 hx hb hK hO kr30 (nxg clo_nil kr30 rfl) hP dK_told_57 ?_
            refine et_ret ?_
            exact mp_iret hx hb hr hlk hP hD hS ((T, tl, al, pn), pl) ⟨⟨⟨(by show tl ≤ 16384; omega), (by show al ≤ 8192; omega), (by show pn ≤ 8; omega), hXT, hU⟩, trivial⟩, hO⟩ [0] rfl rfl rfl (by omega) (by omega) dK_told_58
          | 2, _ =>
            refine lv_tableIn (off := 38) (tgt := 59) hx hb dK_told_21 (by decide) (by decide) (by decide) (by decide) ?_
            refine lv_aload_n hx hb dK_told_59 rfl (lv_at hl 0 rfl) ?_
            refine ty_get (ci := 13) (C := "LatticeKeys$KeyPair") (TT := T_KP) (N := 3) (kd := (17, 2)) hx hb hts (wg_ft i_KP) hown hK hO kr29 (nxg clo_nil kr29 rfl) hP (fun _ h9 => h9) rfl 2 (by decide) (hts _ (wg_t kw_752)) (fun _ h9 => h9) (cd := (3, 1, 3168)) rfl dK_told_60 (fun v31 hv31 => ?_)
            obtain ⟨r29, rfl, kr31⟩ := (show ∃ r : Nat, v31 = .ref r ∧ T r = some (1, 3168) from hv31)
            refine lv_ifnonnull (tgt := 70) hx hb dK_told_63 (by decide) ?_
            refine lv_aload_n hx hb dK_told_70 rfl (lv_at hl 0 rfl) ?_
            refine ty_get (ci := 13) (C := "LatticeKeys$KeyPair") (TT := T_KP) (N := 3) (kd := (17, 2)) hx hb hts (wg_ft i_KP) hown hK hO kr29 (nxg clo_nil kr29 rfl) hP (fun _ h9 => h9) rfl 2 (by decide) (hts _ (wg_t kw_752)) (fun _ h9 => h9) (cd := (3, 1, 3168)) rfl dK_told_71 (fun v32 hv32 => ?_)
            obtain ⟨r30, rfl, kr32⟩ := (show ∃ r : Nat, v32 = .ref r ∧ T r = some (1, 3168) from hv32)
            refine ty_alen1 hx hb hK hO kr32 (nxg clo_nil kr32 rfl) hP dK_told_74 ?_
            refine et_ret ?_
            exact mp_iret hx hb hr hlk hP hD hS ((T, tl, al, pn), pl) ⟨⟨⟨(by show tl ≤ 16384; omega), (by show al ≤ 8192; omega), (by show pn ≤ 8; omega), hXT, hU⟩, trivial⟩, hO⟩ [0] rfl rfl rfl (by omega) (by omega) dK_told_75
          | _ + 3, h9 => exact absurd h9 (by omega)
        · refine lv_tableOut (tgt := 76) hx hb dK_told_21 (tout (by decide) hb9) (by decide) ?_
          exact et_throw (own := "LatticeKeys") (cls := "java/lang/IllegalArgumentException") (text := "nothing of that number is told") (names := ["java/lang/RuntimeException", "java/lang/Exception"]) (ik := 79) (is := 177) (ic := 83) hx hb htr ctr_IAE_0 ctr_IAE_1 ctr_IAE_2 ctr_IAE_5 hown (by decide) (by decide) (hts _ (wg_t kw_501)) (hts _ (wg_t kw_18)) (hX.2.2.2.2.2.1 10 ("LatticeKeys", 177, "nothing of that number is told") rfl) (hat_IAE hts hX.2) hS.1 (hl.1.trans hml.symm) dK_told_76 dK_told_79 dK_told_80 dK_told_82 dK_told_85 htab (Nat.le_of_ble_eq_true rfl) (Nat.le_of_ble_eq_true rfl) (Nat.le_of_ble_eq_true rfl) (Nat.le_of_ble_eq_true rfl) hlk (Nat.le_of_ble_eq_true rfl) (Nat.le_of_ble_eq_true rfl) (List.mem_cons_of_mem _ List.mem_cons_self) hS.2.2 (thr_st hX.2) (fun t hz9 hk9 => ⟨⟨((T, tl, al, pn), pl), ⟨⟨⟨(by show tl ≤ 16384; omega), (by show al ≤ 8192; omega), (by show pn ≤ 8; omega), hXT, hU⟩, trivial⟩, hO⟩, lc_P hP hk9, hD⟩, (lc_S hS hz9 hk9).F rfl⟩)
      | 3, _, hk9 =>
        have kr33 : T q21 = some (17, 3) := hk9
        refine lv_astore_n (lv' := [(3, .ref q21), (0, .ref h0), (1, .int v), (2, .int v2)]) hx hb dK_told_5 rfl hl (by decide) rfl (fun ls hl => ?_)
        refine lv_aload_n hx hb dK_told_6 rfl (lv_at hl 0 rfl) ?_
        refine lv_ifnonnull (tgt := 20) hx hb dK_told_7 (by decide) ?_
        refine lv_iload_n hx hb dK_told_20 rfl (lv_at hl 3 rfl) ?_
        rcases rng (v := v2) 2 (by decide) with hb9 | hb9
        · obtain ⟨j9, hj9, rfl⟩ := hb9
          match j9, hj9 with
          | 0, _ =>
            refine lv_tableIn (off := 27) (tgt := 48) hx hb dK_told_21 (by decide) (by decide) (by decide) (by decide) ?_
            refine lv_aload_n hx hb dK_told_48 rfl (lv_at hl 0 rfl) ?_
            refine ty_get (ci := 13) (C := "LatticeKeys$KeyPair") (TT := T_KP) (N := 3) (kd := (17, 3)) hx hb hts (wg_ft i_KP) hown hK hO kr33 (nxg clo_nil kr33 rfl) hP (fun _ h9 => h9) rfl 0 (by decide) (hts _ (wg_t kw_746)) (fun _ h9 => h9) (cd := (1, 0, 3)) rfl dK_told_49 (fun v33 hv33 => ?_)
            obtain rfl := (show v33 = .int (nI 3) from hv33)
            refine et_ret ?_
            exact mp_iret hx hb hr hlk hP hD hS ((T, tl, al, pn), pl) ⟨⟨⟨(by show tl ≤ 16384; omega), (by show al ≤ 8192; omega), (by show pn ≤ 8; omega), hXT, hU⟩, trivial⟩, hO⟩ [0] rfl rfl rfl (by omega) (by omega) dK_told_52
          | 1, _ =>
            refine lv_tableIn (off := 32) (tgt := 53) hx hb dK_told_21 (by decide) (by decide) (by decide) (by decide) ?_
            refine lv_aload_n hx hb dK_told_53 rfl (lv_at hl 0 rfl) ?_
            refine ty_get (ci := 13) (C := "LatticeKeys$KeyPair") (TT := T_KP) (N := 3) (kd := (17, 3)) hx hb hts (wg_ft i_KP) hown hK hO kr33 (nxg clo_nil kr33 rfl) hP (fun _ h9 => h9) rfl 1 (by decide) (hts _ (wg_t kw_749)) (fun _ h9 => h9) (cd := (3, 1, 1312)) rfl dK_told_54 (fun v34 hv34 => ?_)
            obtain ⟨r31, rfl, kr34⟩ := (show ∃ r : Nat, v34 = .ref r ∧ T r = some (1, 1312) from hv34)
            refine ty_alen1 hx hb hK hO kr34 (nxg clo_nil kr34 rfl) hP dK_told_57 ?_
            refine et_ret ?_
            exact mp_iret hx hb hr hlk hP hD hS ((T, tl, al, pn), pl) ⟨⟨⟨(by show tl ≤ 16384; omega), (by show al ≤ 8192; omega), (by show pn ≤ 8; omega), hXT, hU⟩, trivial⟩, hO⟩ [0] rfl rfl rfl (by omega) (by omega) dK_told_58
          | 2, _ =>
            refine lv_tableIn (off := 38) (tgt := 59) hx hb dK_told_21 (by decide) (by decide) (by decide) (by decide) ?_
            refine lv_aload_n hx hb dK_told_59 rfl (lv_at hl 0 rfl) ?_
            refine ty_get (ci := 13) (C := "LatticeKeys$KeyPair") (TT := T_KP) (N := 3) (kd := (17, 3)) hx hb hts (wg_ft i_KP) hown hK hO kr33 (nxg clo_nil kr33 rfl) hP (fun _ h9 => h9) rfl 2 (by decide) (hts _ (wg_t kw_752)) (fun _ h9 => h9) (cd := (3, 1, 2560)) rfl dK_told_60 (fun v35 hv35 => ?_)
            obtain ⟨r32, rfl, kr35⟩ := (show ∃ r : Nat, v35 = .ref r ∧ T r = some (1, 2560) from hv35)
            refine lv_ifnonnull (tgt := 70) hx hb dK_told_63 (by decide) ?_
            refine lv_aload_n hx hb dK_told_70 rfl (lv_at hl 0 rfl) ?_
            refine ty_get (ci := 13) (C := "LatticeKeys$KeyPair") (TT := T_KP) (N := 3) (kd := (17, 3)) hx hb hts (wg_ft i_KP) hown hK hO kr33 (nxg clo_nil kr33 rfl) hP (fun _ h9 => h9) rfl 2 (by decide) (hts _ (wg_t kw_752)) (fun _ h9 => h9) (cd := (3, 1, 2560)) rfl dK_told_71 (fun v36 hv36 => ?_)
            obtain ⟨r33, rfl, kr36⟩ := (show ∃ r : Nat, v36 = .ref r ∧ T r = some (1, 2560) from hv36)
            refine ty_alen1 hx hb hK hO kr36 (nxg clo_nil kr36 rfl) hP dK_told_74 ?_
            refine et_ret ?_
            exact mp_iret hx hb hr hlk hP hD hS ((T, tl, al, pn), pl) ⟨⟨⟨(by show tl ≤ 16384; omega), (by show al ≤ 8192; omega), (by show pn ≤ 8; omega), hXT, hU⟩, trivial⟩, hO⟩ [0] rfl rfl rfl (by omega) (by omega) dK_told_75
          | _ + 3, h9 => exact absurd h9 (by omega)
        · refine lv_tableOut (tgt := 76) hx hb dK_told_21 (tout (by decide) hb9) (by decide) ?_
          exact et_throw (own := "LatticeKeys") (cls := "java/lang/IllegalArgumentException") (text := "nothing of that number is told") (names := ["java/lang/RuntimeException", "java/lang/Exception"]) (ik := 79) (is := 177) (ic := 83) hx hb htr ctr_IAE_0 ctr_IAE_1 ctr_IAE_2 ctr_IAE_5 hown (by decide) (by decide) (hts _ (wg_t kw_501)) (hts _ (wg_t kw_18)) (hX.2.2.2.2.2.1 10 ("LatticeKeys", 177, "nothing of that number is told") rfl) (hat_IAE hts hX.2) hS.1 (hl.1.trans hml.symm) dK_told_76 dK_told_79 dK_told_80 dK_told_82 dK_told_85 htab (Nat.le_of_ble_eq_true rfl) (Nat.le_of_ble_eq_true rfl) (Nat.le_of_ble_eq_true rfl) (Nat.le_of_ble_eq_true rfl) hlk (Nat.le_of_ble_eq_true rfl) (Nat.le_of_ble_eq_true rfl) (List.mem_cons_of_mem _ List.mem_cons_self) hS.2.2 (thr_st hX.2) (fun t hz9 hk9 => ⟨⟨((T, tl, al, pn), pl), ⟨⟨⟨(by show tl ≤ 16384; omega), (by show al ≤ 8192; omega), (by show pn ≤ 8; omega), hXT, hU⟩, trivial⟩, hO⟩, lc_P hP hk9, hD⟩, (lc_S hS hz9 hk9).F rfl⟩)
      | 4, _, hk9 =>
        have kr37 : T q21 = some (17, 4) := hk9
        refine lv_astore_n (lv' := [(3, .ref q21), (0, .ref h0), (1, .int v), (2, .int v2)]) hx hb dK_told_5 rfl hl (by decide) rfl (fun ls hl => ?_)
        refine lv_aload_n hx hb dK_told_6 rfl (lv_at hl 0 rfl) ?_
        refine lv_ifnonnull (tgt := 20) hx hb dK_told_7 (by decide) ?_
        refine lv_iload_n hx hb dK_told_20 rfl (lv_at hl 3 rfl) ?_
        rcases rng (v := v2) 2 (by decide) with hb9 | hb9
        · obtain ⟨j9, hj9, rfl⟩ := hb9
          match j9, hj9 with
          | 0, _ =>
            refine lv_tableIn (off := 27) (tgt := 48) hx hb dK_told_21 (by decide) (by decide) (by decide) (by decide) ?_
            refine lv_aload_n hx hb dK_told_48 rfl (lv_at hl 0 rfl) ?_
            refine ty_get (ci := 13) (C := "LatticeKeys$KeyPair") (TT := T_KP) (N := 3) (kd := (17, 4)) hx hb hts (wg_ft i_KP) hown hK hO kr37 (nxg clo_nil kr37 rfl) hP (fun _ h9 => h9) rfl 0 (by decide) (hts _ (wg_t kw_746)) (fun _ h9 => h9) (cd := (1, 0, 4)) rfl dK_told_49 (fun v37 hv37 => ?_)
            obtain rfl := (show v37 = .int (nI 4) from hv37)
            refine et_ret ?_
            exact mp_iret hx hb hr hlk hP hD hS ((T, tl, al, pn), pl) ⟨⟨⟨(by show tl ≤ 16384; omega), (by show al ≤ 8192; omega), (by show pn ≤ 8; omega), hXT, hU⟩, trivial⟩, hO⟩ [0] rfl rfl rfl (by omega) (by omega) dK_told_52
          | 1, _ =>
            refine lv_tableIn (off := 32) (tgt := 53) hx hb dK_told_21 (by decide) (by decide) (by decide) (by decide) ?_
            refine lv_aload_n hx hb dK_told_53 rfl (lv_at hl 0 rfl) ?_
            refine ty_get (ci := 13) (C := "LatticeKeys$KeyPair") (TT := T_KP) (N := 3) (kd := (17, 4)) hx hb hts (wg_ft i_KP) hown hK hO kr37 (nxg clo_nil kr37 rfl) hP (fun _ h9 => h9) rfl 1 (by decide) (hts _ (wg_t kw_749)) (fun _ h9 => h9) (cd := (3, 1, 1952)) rfl dK_told_54 (fun v38 hv38 => ?_)
            obtain ⟨r34, rfl, kr38⟩ := (show ∃ r : Nat, v38 = .ref r ∧ T r = some (1, 1952) from hv38)
            refine ty_alen1 hx hb hK hO kr38 (nxg clo_nil kr38 rfl) hP dK_told_57 ?_
            refine et_ret ?_
            exact mp_iret hx hb hr hlk hP hD hS ((T, tl, al, pn), pl) ⟨⟨⟨(by show tl ≤ 16384; omega), (by show al ≤ 8192; omega), (by show pn ≤ 8; omega), hXT, hU⟩, trivial⟩, hO⟩ [0] rfl rfl rfl (by omega) (by omega) dK_told_58
          | 2, _ =>
            refine lv_tableIn (off := 38) (tgt := 59) hx hb dK_told_21 (by decide) (by decide) (by decide) (by decide) ?_
            refine lv_aload_n hx hb dK_told_59 rfl (lv_at hl 0 rfl) ?_
            refine ty_get (ci := 13) (C := "LatticeKeys$KeyPair") (TT := T_KP) (N := 3) (kd := (17, 4)) hx hb hts (wg_ft i_KP) hown hK hO kr37 (nxg clo_nil kr37 rfl) hP (fun _ h9 => h9) rfl 2 (by decide) (hts _ (wg_t kw_752)) (fun _ h9 => h9) (cd := (3, 1, 4032)) rfl dK_told_60 (fun v39 hv39 => ?_)
            obtain ⟨r35, rfl, kr39⟩ := (show ∃ r : Nat, v39 = .ref r ∧ T r = some (1, 4032) from hv39)
            refine lv_ifnonnull (tgt := 70) hx hb dK_told_63 (by decide) ?_
            refine lv_aload_n hx hb dK_told_70 rfl (lv_at hl 0 rfl) ?_
            refine ty_get (ci := 13) (C := "LatticeKeys$KeyPair") (TT := T_KP) (N := 3) (kd := (17, 4)) hx hb hts (wg_ft i_KP) hown hK hO kr37 (nxg clo_nil kr37 rfl) hP (fun _ h9 => h9) rfl 2 (by decide) (hts _ (wg_t kw_752)) (fun _ h9 => h9) (cd := (3, 1, 4032)) rfl dK_told_71 (fun v40 hv40 => ?_)
            obtain ⟨r36, rfl, kr40⟩ := (show ∃ r : Nat, v40 = .ref r ∧ T r = some (1, 4032) from hv40)
            refine ty_alen1 hx hb hK hO kr40 (nxg clo_nil kr40 rfl) hP dK_told_74 ?_
            refine et_ret ?_
            exact mp_iret hx hb hr hlk hP hD hS ((T, tl, al, pn), pl) ⟨⟨⟨(by show tl ≤ 16384; omega), (by show al ≤ 8192; omega), (by show pn ≤ 8; omega), hXT, hU⟩, trivial⟩, hO⟩ [0] rfl rfl rfl (by omega) (by omega) dK_told_75
          | _ + 3, h9 => exact absurd h9 (by omega)
        · refine lv_tableOut (tgt := 76) hx hb dK_told_21 (tout (by decide) hb9) (by decide) ?_
          exact et_throw (own := "LatticeKeys") (cls := "java/lang/IllegalArgumentException") (text := "nothing of that number is told") (names := ["java/lang/RuntimeException", "java/lang/Exception"]) (ik := 79) (is := 177) (ic := 83) hx hb htr ctr_IAE_0 ctr_IAE_1 ctr_IAE_2 ctr_IAE_5 hown (by decide) (by decide) (hts _ (wg_t kw_501)) (hts _ (wg_t kw_18)) (hX.2.2.2.2.2.1 10 ("LatticeKeys", 177, "nothing of that number is told") rfl) (hat_IAE hts hX.2) hS.1 (hl.1.trans hml.symm) dK_told_76 dK_told_79 dK_told_80 dK_told_82 dK_told_85 htab (Nat.le_of_ble_eq_true rfl) (Nat.le_of_ble_eq_true rfl) (Nat.le_of_ble_eq_true rfl) (Nat.le_of_ble_eq_true rfl) hlk (Nat.le_of_ble_eq_true rfl) (Nat.le_of_ble_eq_true rfl) (List.mem_cons_of_mem _ List.mem_cons_self) hS.2.2 (thr_st hX.2) (fun t hz9 hk9 => ⟨⟨((T, tl, al, pn), pl), ⟨⟨⟨(by show tl ≤ 16384; omega), (by show al ≤ 8192; omega), (by show pn ≤ 8; omega), hXT, hU⟩, trivial⟩, hO⟩, lc_P hP hk9, hD⟩, (lc_S hS hz9 hk9).F rfl⟩)
      | 5, _, hk9 =>
        have kr41 : T q21 = some (17, 5) := hk9
        refine lv_astore_n (lv' := [(3, .ref q21), (0, .ref h0), (1, .int v), (2, .int v2)]) hx hb dK_told_5 rfl hl (by decide) rfl (fun ls hl => ?_)
        refine lv_aload_n hx hb dK_told_6 rfl (lv_at hl 0 rfl) ?_
        refine lv_ifnonnull (tgt := 20) hx hb dK_told_7 (by decide) ?_
        refine lv_iload_n hx hb dK_told_20 rfl (lv_at hl 3 rfl) ?_
        rcases rng (v := v2) 2 (by decide) with hb9 | hb9
        · obtain ⟨j9, hj9, rfl⟩ := hb9
          match j9, hj9 with
          | 0, _ =>
            refine lv_tableIn (off := 27) (tgt := 48) hx hb dK_told_21 (by decide) (by decide) (by decide) (by decide) ?_
            refine lv_aload_n hx hb dK_told_48 rfl (lv_at hl 0 rfl) ?_
            refine ty_get (ci := 13) (C := "LatticeKeys$KeyPair") (TT := T_KP) (N := 3) (kd := (17, 5)) hx hb hts (wg_ft i_KP) hown hK hO kr41 (nxg clo_nil kr41 rfl) hP (fun _ h9 => h9) rfl 0 (by decide) (hts _ (wg_t kw_746)) (fun _ h9 => h9) (cd := (1, 0, 5)) rfl dK_told_49 (fun v41 hv41 => ?_)
            obtain rfl := (show v41 = .int (nI 5) from hv41)
            refine et_ret ?_
            exact mp_iret hx hb hr hlk hP hD hS ((T, tl, al, pn), pl) ⟨⟨⟨(by show tl ≤ 16384; omega), (by show al ≤ 8192; omega), (by show pn ≤ 8; omega), hXT, hU⟩, trivial⟩, hO⟩ [0] rfl rfl rfl (by omega) (by omega) dK_told_52
          | 1, _ =>
            refine lv_tableIn (off := 32) (tgt := 53) hx hb dK_told_21 (by decide) (by decide) (by decide) (by decide) ?_
            refine lv_aload_n hx hb dK_told_53 rfl (lv_at hl 0 rfl) ?_
            refine ty_get (ci := 13) (C := "LatticeKeys$KeyPair") (TT := T_KP) (N := 3) (kd := (17, 5)) hx hb hts (wg_ft i_KP) hown hK hO kr41 (nxg clo_nil kr41 rfl) hP (fun _ h9 => h9) rfl 1 (by decide) (hts _ (wg_t kw_749)) (fun _ h9 => h9) (cd := (3, 1, 2592)) rfl dK_told_54 (fun v42 hv42 => ?_)
            obtain ⟨r37, rfl, kr42⟩ := (show ∃ r : Nat, v42 = .ref r ∧ T r = some (1, 2592) from hv42)
            refine ty_alen1 hx hb hK hO kr42 (nxg clo_nil kr42 rfl) hP dK_told_57 ?_
            refine et_ret ?_
            exact mp_iret hx hb hr hlk hP hD hS ((T, tl, al, pn), pl) ⟨⟨⟨(by show tl ≤ 16384; omega), (by show al ≤ 8192; omega), (by show pn ≤ 8; omega), hXT, hU⟩, trivial⟩, hO⟩ [0] rfl rfl rfl (by omega) (by omega) dK_told_58
          | 2, _ =>
            refine lv_tableIn (off := 38) (tgt := 59) hx hb dK_told_21 (by decide) (by decide) (by decide) (by decide) ?_
            refine lv_aload_n hx hb dK_told_59 rfl (lv_at hl 0 rfl) ?_
            refine ty_get (ci := 13) (C := "LatticeKeys$KeyPair") (TT := T_KP) (N := 3) (kd := (17, 5)) hx hb hts (wg_ft i_KP) hown hK hO kr41 (nxg clo_nil kr41 rfl) hP (fun _ h9 => h9) rfl 2 (by decide) (hts _ (wg_t kw_752)) (fun _ h9 => h9) (cd := (3, 1, 4896)) rfl dK_told_60 (fun v43 hv43 => ?_)
            obtain ⟨r38, rfl, kr43⟩ := (show ∃ r : Nat, v43 = .ref r ∧ T r = some (1, 4896) from hv43)
            refine lv_ifnonnull (tgt := 70) hx hb dK_told_63 (by decide) ?_
            refine lv_aload_n hx hb dK_told_70 rfl (lv_at hl 0 rfl) ?_
            refine ty_get (ci := 13) (C := "LatticeKeys$KeyPair") (TT := T_KP) (N := 3) (kd := (17, 5)) hx hb hts (wg_ft i_KP) hown hK hO kr41 (nxg clo_nil kr41 rfl) hP (fun _ h9 => h9) rfl 2 (by decide) (hts _ (wg_t kw_752)) (fun _ h9 => h9) (cd := (3, 1, 4896)) rfl dK_told_71 (fun v44 hv44 => ?_)
            obtain ⟨r39, rfl, kr44⟩ := (show ∃ r : Nat, v44 = .ref r ∧ T r = some (1, 4896) from hv44)
            refine ty_alen1 hx hb hK hO kr44 (nxg clo_nil kr44 rfl) hP dK_told_74 ?_
            refine et_ret ?_
            exact mp_iret hx hb hr hlk hP hD hS ((T, tl, al, pn), pl) ⟨⟨⟨(by show tl ≤ 16384; omega), (by show al ≤ 8192; omega), (by show pn ≤ 8; omega), hXT, hU⟩, trivial⟩, hO⟩ [0] rfl rfl rfl (by omega) (by omega) dK_told_75
          | _ + 3, h9 => exact absurd h9 (by omega)
        · refine lv_tableOut (tgt := 76) hx hb dK_told_21 (tout (by decide) hb9) (by decide) ?_
          exact et_throw (own := "LatticeKeys") (cls := "java/lang/IllegalArgumentException") (text := "nothing of that number is told") (names := ["java/lang/RuntimeException", "java/lang/Exception"]) (ik := 79) (is := 177) (ic := 83) hx hb htr ctr_IAE_0 ctr_IAE_1 ctr_IAE_2 ctr_IAE_5 hown (by decide) (by decide) (hts _ (wg_t kw_501)) (hts _ (wg_t kw_18)) (hX.2.2.2.2.2.1 10 ("LatticeKeys", 177, "nothing of that number is told") rfl) (hat_IAE hts hX.2) hS.1 (hl.1.trans hml.symm) dK_told_76 dK_told_79 dK_told_80 dK_told_82 dK_told_85 htab (Nat.le_of_ble_eq_true rfl) (Nat.le_of_ble_eq_true rfl) (Nat.le_of_ble_eq_true rfl) (Nat.le_of_ble_eq_true rfl) hlk (Nat.le_of_ble_eq_true rfl) (Nat.le_of_ble_eq_true rfl) (List.mem_cons_of_mem _ List.mem_cons_self) hS.2.2 (thr_st hX.2) (fun t hz9 hk9 => ⟨⟨((T, tl, al, pn), pl), ⟨⟨⟨(by show tl ≤ 16384; omega), (by show al ≤ 8192; omega), (by show pn ≤ 8; omega), hXT, hU⟩, trivial⟩, hO⟩, lc_P hP hk9, hD⟩, (lc_S hS hz9 hk9).F rfl⟩)
      | _ + 6, h9, _ => exact absurd h9 (by omega)
    · match s9, hs9, hk9 with
      | 0, _, hk9 =>
        have kr45 : T q21 = some (16, 0) := hk9
        refine lv_astore_n (lv' := [(3, .ref q21), (0, .ref h0), (1, .int v), (2, .int v2)]) hx hb dK_told_5 rfl hl (by decide) rfl (fun ls hl => ?_)
        refine lv_aload_n hx hb dK_told_6 rfl (lv_at hl 0 rfl) ?_
        refine lv_ifnonnull (tgt := 20) hx hb dK_told_7 (by decide) ?_
        refine lv_iload_n hx hb dK_told_20 rfl (lv_at hl 3 rfl) ?_
        rcases rng (v := v2) 2 (by decide) with hb9 | hb9
        · obtain ⟨j9, hj9, rfl⟩ := hb9
          match j9, hj9 with
          | 0, _ =>
            refine lv_tableIn (off := 27) (tgt := 48) hx hb dK_told_21 (by decide) (by decide) (by decide) (by decide) ?_
            refine lv_aload_n hx hb dK_told_48 rfl (lv_at hl 0 rfl) ?_
            refine ty_get (ci := 13) (C := "LatticeKeys$KeyPair") (TT := T_KP) (N := 3) (kd := (16, 0)) hx hb hts (wg_ft i_KP) hown hK hO kr45 (nxg clo_nil kr45 rfl) hP (fun _ h9 => h9) rfl 0 (by decide) (hts _ (wg_t kw_746)) (fun _ h9 => h9) (cd := (1, 0, 0)) rfl dK_told_49 (fun v45 hv45 => ?_)
            obtain rfl := (show v45 = .int (nI 0) from hv45)
            refine et_ret ?_
            exact mp_iret hx hb hr hlk hP hD hS ((T, tl, al, pn), pl) ⟨⟨⟨(by show tl ≤ 16384; omega), (by show al ≤ 8192; omega), (by show pn ≤ 8; omega), hXT, hU⟩, trivial⟩, hO⟩ [0] rfl rfl rfl (by omega) (by omega) dK_told_52
          | 1, _ =>
            refine lv_tableIn (off := 32) (tgt := 53) hx hb dK_told_21 (by decide) (by decide) (by decide) (by decide) ?_
            refine lv_aload_n hx hb dK_told_53 rfl (lv_at hl 0 rfl) ?_
            refine ty_get (ci := 13) (C := "LatticeKeys$KeyPair") (TT := T_KP) (N := 3) (kd := (16, 0)) hx hb hts (wg_ft i_KP) hown hK hO kr45 (nxg clo_nil kr45 rfl) hP (fun _ h9 => h9) rfl 1 (by decide) (hts _ (wg_t kw_749)) (fun _ h9 => h9) (cd := (3, 1, 800)) rfl dK_told_54 (fun v46 hv46 => ?_)
            obtain ⟨r40, rfl, kr46⟩ := (show ∃ r : Nat, v46 = .ref r ∧ T r = some (1, 800) from hv46)
            refine ty_alen1 hx hb hK hO kr46 (nxg clo_nil kr46 rfl) hP dK_told_57 ?_
            refine et_ret ?_
            exact mp_iret hx hb hr hlk hP hD hS ((T, tl, al, pn), pl) ⟨⟨⟨(by show tl ≤ 16384; omega), (by show al ≤ 8192; omega), (by show pn ≤ 8; omega), hXT, hU⟩, trivial⟩, hO⟩ [0] rfl rfl rfl (by omega) (by omega) dK_told_58
          | 2, _ =>
            refine lv_tableIn (off := 38) (tgt := 59) hx hb dK_told_21 (by decide) (by decide) (by decide) (by decide) ?_
            refine lv_aload_n hx hb dK_told_59 rfl (lv_at hl 0 rfl) ?_
            refine ty_get (ci := 13) (C := "LatticeKeys$KeyPair") (TT := T_KP) (N := 3) (kd := (16, 0)) hx hb hts (wg_ft i_KP) hown hK hO kr45 (nxg clo_nil kr45 rfl) hP (fun _ h9 => h9) rfl 2 (by decide) (hts _ (wg_t kw_752)) (fun _ h9 => h9) (cd := (7, 0, 0)) rfl dK_told_60 (fun v47 hv47 => ?_)
            obtain rfl := (show v47 = .null from hv47)
            refine lv_ifnonnullN hx hb dK_told_63 ?_
            refine lv_iconst (v := nI 0) hx hb dK_told_66 (by decide) ?_
            refine lv_goto (tgt := 75) hx hb dK_told_67 (by decide) ?_
            refine et_ret ?_
            exact mp_iret hx hb hr hlk hP hD hS ((T, tl, al, pn), pl) ⟨⟨⟨(by show tl ≤ 16384; omega), (by show al ≤ 8192; omega), (by show pn ≤ 8; omega), hXT, hU⟩, trivial⟩, hO⟩ [0] rfl rfl rfl (by omega) (by omega) dK_told_75
          | _ + 3, h9 => exact absurd h9 (by omega)
        · refine lv_tableOut (tgt := 76) hx hb dK_told_21 (tout (by decide) hb9) (by decide) ?_
          exact et_throw (own := "LatticeKeys") (cls := "java/lang/IllegalArgumentException") (text := "nothing of that number is told") (names := ["java/lang/RuntimeException", "java/lang/Exception"]) (ik := 79) (is := 177) (ic := 83) hx hb htr ctr_IAE_0 ctr_IAE_1 ctr_IAE_2 ctr_IAE_5 hown (by decide) (by decide) (hts _ (wg_t kw_501)) (hts _ (wg_t kw_18)) (hX.2.2.2.2.2.1 10 ("LatticeKeys", 177, "nothing of that number is told") rfl) (hat_IAE hts hX.2) hS.1 (hl.1.trans hml.symm) dK_told_76 dK_told_79 dK_told_80 dK_told_82 dK_told_85 htab (Nat.le_of_ble_eq_true rfl) (Nat.le_of_ble_eq_true rfl) (Nat.le_of_ble_eq_true rfl) (Nat.le_of_ble_eq_true rfl) hlk (Nat.le_of_ble_eq_true rfl) (Nat.le_of_ble_eq_true rfl) (List.mem_cons_of_mem _ List.mem_cons_self) hS.2.2 (thr_st hX.2) (fun t hz9 hk9 => ⟨⟨((T, tl, al, pn), pl), ⟨⟨⟨(by show tl ≤ 16384; omega), (by show al ≤ 8192; omega), (by show pn ≤ 8; omega), hXT, hU⟩, trivial⟩, hO⟩, lc_P hP hk9, hD⟩, (lc_S hS hz9 hk9).F rfl⟩)
      | 1, _, hk9 =>
        have kr47 : T q21 = some (16, 1) := hk9
        refine lv_astore_n (lv' := [(3, .ref q21), (0, .ref h0), (1, .int v), (2, .int v2)]) hx hb dK_told_5 rfl hl (by decide) rfl (fun ls hl => ?_)
        refine lv_aload_n hx hb dK_told_6 rfl (lv_at hl 0 rfl) ?_
        refine lv_ifnonnull (tgt := 20) hx hb dK_told_7 (by decide) ?_
        refine lv_iload_n hx hb dK_told_20 rfl (lv_at hl 3 rfl) ?_
        rcases rng (v := v2) 2 (by decide) with hb9 | hb9
        · obtain ⟨j9, hj9, rfl⟩ := hb9
          match j9, hj9 with
          | 0, _ =>
            refine lv_tableIn (off := 27) (tgt := 48) hx hb dK_told_21 (by decide) (by decide) (by decide) (by decide) ?_
            refine lv_aload_n hx hb dK_told_48 rfl (lv_at hl 0 rfl) ?_
            refine ty_get (ci := 13) (C := "LatticeKeys$KeyPair") (TT := T_KP) (N := 3) (kd := (16, 1)) hx hb hts (wg_ft i_KP) hown hK hO kr47 (nxg clo_nil kr47 rfl) hP (fun _ h9 => h9) rfl 0 (by decide) (hts _ (wg_t kw_746)) (fun _ h9 => h9) (cd := (1, 0, 1)) rfl dK_told_49 (fun v48 hv48 => ?_)
            obtain rfl := (show v48 = .int (nI 1) from hv48)
            refine et_ret ?_
            exact mp_iret hx hb hr hlk hP hD hS ((T, tl, al, pn), pl) ⟨⟨⟨(by show tl ≤ 16384; omega), (by show al ≤ 8192; omega), (by show pn ≤ 8; omega), hXT, hU⟩, trivial⟩, hO⟩ [0] rfl rfl rfl (by omega) (by omega) dK_told_52
          | 1, _ =>
            refine lv_tableIn (off := 32) (tgt := 53) hx hb dK_told_21 (by decide) (by decide) (by decide) (by decide) ?_
            refine lv_aload_n hx hb dK_told_53 rfl (lv_at hl 0 rfl) ?_
            refine ty_get (ci := 13) (C := "LatticeKeys$KeyPair") (TT := T_KP) (N := 3) (kd := (16, 1)) hx hb hts (wg_ft i_KP) hown hK hO kr47 (nxg clo_nil kr47 rfl) hP (fun _ h9 => h9) rfl 1 (by decide) (hts _ (wg_t kw_749)) (fun _ h9 => h9) (cd := (3, 1, 1184)) rfl dK_told_54 (fun v49 hv49 => ?_)
            obtain ⟨r41, rfl, kr48⟩ := (show ∃ r : Nat, v49 = .ref r ∧ T r = some (1, 1184) from hv49)
            refine ty_alen1 hx hb hK hO kr48 (nxg clo_nil kr48 rfl) hP dK_told_57 ?_
            refine et_ret ?_
            exact mp_iret hx hb hr hlk hP hD hS ((T, tl, al, pn), pl) ⟨⟨⟨(by show tl ≤ 16384; omega), (by show al ≤ 8192; omega), (by show pn ≤ 8; omega), hXT, hU⟩, trivial⟩, hO⟩ [0] rfl rfl rfl (by omega) (by omega) dK_told_58
          | 2, _ =>
            refine lv_tableIn (off := 38) (tgt := 59) hx hb dK_told_21 (by decide) (by decide) (by decide) (by decide) ?_
            refine lv_aload_n hx hb dK_told_59 rfl (lv_at hl 0 rfl) ?_
            refine ty_get (ci := 13) (C := "LatticeKeys$KeyPair") (TT := T_KP) (N := 3) (kd := (16, 1)) hx hb hts (wg_ft i_KP) hown hK hO kr47 (nxg clo_nil kr47 rfl) hP (fun _ h9 => h9) rfl 2 (by decide) (hts _ (wg_t kw_752)) (fun _ h9 => h9) (cd := (7, 0, 0)) rfl dK_told_60 (fun v50 hv50 => ?_)
            obtain rfl := (show v50 = .null from hv50)
            refine lv_ifnonnullN hx hb dK_told_63 ?_
            refine lv_iconst (v := nI 0) hx hb dK_told_66 (by decide) ?_
            refine lv_goto (tgt := 75) hx hb dK_told_67 (by decide) ?_
            refine et_ret ?_
            exact mp_iret hx hb hr hlk hP hD hS ((T, tl, al, pn), pl) ⟨⟨⟨(by show tl ≤ 16384; omega), (by show al ≤ 8192; omega), (by show pn ≤ 8; omega), hXT, hU⟩, trivial⟩, hO⟩ [0] rfl rfl rfl (by omega) (by omega) dK_told_75
          | _ + 3, h9 => exact absurd h9 (by omega)
        · refine lv_tableOut (tgt := 76) hx hb dK_told_21 (tout (by decide) hb9) (by decide) ?_
          exact et_throw (own := "LatticeKeys") (cls := "java/lang/IllegalArgumentException") (text := "nothing of that number is told") (names := ["java/lang/RuntimeException", "java/lang/Exception"]) (ik := 79) (is := 177) (ic := 83) hx hb htr ctr_IAE_0 ctr_IAE_1 ctr_IAE_2 ctr_IAE_5 hown (by decide) (by decide) (hts _ (wg_t kw_501)) (hts _ (wg_t kw_18)) (hX.2.2.2.2.2.1 10 ("LatticeKeys", 177, "nothing of that number is told") rfl) (hat_IAE hts hX.2) hS.1 (hl.1.trans hml.symm) dK_told_76 dK_told_79 dK_told_80 dK_told_82 dK_told_85 htab (Nat.le_of_ble_eq_true rfl) (Nat.le_of_ble_eq_true rfl) (Nat.le_of_ble_eq_true rfl) (Nat.le_of_ble_eq_true rfl) hlk (Nat.le_of_ble_eq_true rfl) (Nat.le_of_ble_eq_true rfl) (List.mem_cons_of_mem _ List.mem_cons_self) hS.2.2 (thr_st hX.2) (fun t hz9 hk9 => ⟨⟨((T, tl, al, pn), pl), ⟨⟨⟨(by show tl ≤ 16384; omega), (by show al ≤ 8192; omega), (by show pn ≤ 8; omega), hXT, hU⟩, trivial⟩, hO⟩, lc_P hP hk9, hD⟩, (lc_S hS hz9 hk9).F rfl⟩)
      | 2, _, hk9 =>
        have kr49 : T q21 = some (16, 2) := hk9
        refine lv_astore_n (lv' := [(3, .ref q21), (0, .ref h0), (1, .int v), (2, .int v2)]) hx hb dK_told_5 rfl hl (by decide) rfl (fun ls hl => ?_)
        refine lv_aload_n hx hb dK_told_6 rfl (lv_at hl 0 rfl) ?_
        refine lv_ifnonnull (tgt := 20) hx hb dK_told_7 (by decide) ?_
        refine lv_iload_n hx hb dK_told_20 rfl (lv_at hl 3 rfl) ?_
        rcases rng (v := v2) 2 (by decide) with hb9 | hb9
        · obtain ⟨j9, hj9, rfl⟩ := hb9
          match j9, hj9 with
          | 0, _ =>
            refine lv_tableIn (off := 27) (tgt := 48) hx hb dK_told_21 (by decide) (by decide) (by decide) (by decide) ?_
            refine lv_aload_n hx hb dK_told_48 rfl (lv_at hl 0 rfl) ?_
            refine ty_get (ci := 13) (C := "LatticeKeys$KeyPair") (TT := T_KP) (N := 3) (kd := (16, 2)) hx hb hts (wg_ft i_KP) hown hK hO kr49 (nxg clo_nil kr49 rfl) hP (fun _ h9 => h9) rfl 0 (by decide) (hts _ (wg_t kw_746)) (fun _ h9 => h9) (cd := (1, 0, 2)) rfl dK_told_49 (fun v51 hv51 => ?_)
            obtain rfl := (show v51 = .int (nI 2) from hv51)
            refine et_ret ?_
            exact mp_iret hx hb hr hlk hP hD hS ((T, tl, al, pn), pl) ⟨⟨⟨(by show tl ≤ 16384; omega), (by show al ≤ 8192; omega), (by show pn ≤ 8; omega), hXT, hU⟩, trivial⟩, hO⟩ [0] rfl rfl rfl (by omega) (by omega) dK_told_52
          | 1, _ =>
            refine lv_tableIn (off := 32) (tgt := 53) hx hb dK_told_21 (by decide) (by decide) (by decide) (by decide) ?_
            refine lv_aload_n hx hb dK_told_53 rfl (lv_at hl 0 rfl) ?_
            refine ty_get (ci := 13) (C := "LatticeKeys$KeyPair") (TT := T_KP) (N := 3) (kd := (16, 2)) hx hb hts (wg_ft i_KP) hown hK hO kr49 (nxg clo_nil kr49 rfl) hP (fun _ h9 => h9) rfl 1 (by decide) (hts _ (wg_t kw_749)) (fun _ h9 => h9) (cd := (3, 1, 1568)) rfl dK_told_54 (fun v52 hv52 => ?_)
            obtain ⟨r42, rfl, kr50⟩ := (show ∃ r : Nat, v52 = .ref r ∧ T r = some (1, 1568) from hv52)
            refine ty_alen1 hx hb hK hO kr50 (nxg clo_nil kr50 rfl) hP dK_told_57 ?_
            refine et_ret ?_
            exact mp_iret hx hb hr hlk hP hD hS ((T, tl, al, pn), pl) ⟨⟨⟨(by show tl ≤ 16384; omega), (by show al ≤ 8192; omega), (by show pn ≤ 8; omega), hXT, hU⟩, trivial⟩, hO⟩ [0] rfl rfl rfl (by omega) (by omega) dK_told_58
          | 2, _ =>
            refine lv_tableIn (off := 38) (tgt := 59) hx hb dK_told_21 (by decide) (by decide) (by decide) (by decide) ?_
            refine lv_aload_n hx hb dK_told_59 rfl (lv_at hl 0 rfl) ?_
            refine ty_get (ci := 13) (C := "LatticeKeys$KeyPair") (TT := T_KP) (N := 3) (kd := (16, 2)) hx hb hts (wg_ft i_KP) hown hK hO kr49 (nxg clo_nil kr49 rfl) hP (fun _ h9 => h9) rfl 2 (by decide) (hts _ (wg_t kw_752)) (fun _ h9 => h9) (cd := (7, 0, 0)) rfl dK_told_60 (fun v53 hv53 => ?_)
            obtain rfl := (show v53 = .null from hv53)
            refine lv_ifnonnullN hx hb dK_told_63 ?_
            refine lv_iconst (v := nI 0) hx hb dK_told_66 (by decide) ?_
            refine lv_goto (tgt := 75) hx hb dK_told_67 (by decide) ?_
            refine et_ret ?_
            exact mp_iret hx hb hr hlk hP hD hS ((T, tl, al, pn), pl) ⟨⟨⟨(by show tl ≤ 16384; omega), (by show al ≤ 8192; omega), (by show pn ≤ 8; omega), hXT, hU⟩, trivial⟩, hO⟩ [0] rfl rfl rfl (by omega) (by omega) dK_told_75
          | _ + 3, h9 => exact absurd h9 (by omega)
        · refine lv_tableOut (tgt := 76) hx hb dK_told_21 (tout (by decide) hb9) (by decide) ?_
          exact et_throw (own := "LatticeKeys") (cls := "java/lang/IllegalArgumentException") (text := "nothing of that number is told") (names := ["java/lang/RuntimeException", "java/lang/Exception"]) (ik := 79) (is := 177) (ic := 83) hx hb htr ctr_IAE_0 ctr_IAE_1 ctr_IAE_2 ctr_IAE_5 hown (by decide) (by decide) (hts _ (wg_t kw_501)) (hts _ (wg_t kw_18)) (hX.2.2.2.2.2.1 10 ("LatticeKeys", 177, "nothing of that number is told") rfl) (hat_IAE hts hX.2) hS.1 (hl.1.trans hml.symm) dK_told_76 dK_told_79 dK_told_80 dK_told_82 dK_told_85 htab (Nat.le_of_ble_eq_true rfl) (Nat.le_of_ble_eq_true rfl) (Nat.le_of_ble_eq_true rfl) (Nat.le_of_ble_eq_true rfl) hlk (Nat.le_of_ble_eq_true rfl) (Nat.le_of_ble_eq_true rfl) (List.mem_cons_of_mem _ List.mem_cons_self) hS.2.2 (thr_st hX.2) (fun t hz9 hk9 => ⟨⟨((T, tl, al, pn), pl), ⟨⟨⟨(by show tl ≤ 16384; omega), (by show al ≤ 8192; omega), (by show pn ≤ 8; omega), hXT, hU⟩, trivial⟩, hO⟩, lc_P hP hk9, hD⟩, (lc_S hS hz9 hk9).F rfl⟩)
      | 3, _, hk9 =>
        have kr51 : T q21 = some (16, 3) := hk9
        refine lv_astore_n (lv' := [(3, .ref q21), (0, .ref h0), (1, .int v), (2, .int v2)]) hx hb dK_told_5 rfl hl (by decide) rfl (fun ls hl => ?_)
        refine lv_aload_n hx hb dK_told_6 rfl (lv_at hl 0 rfl) ?_
        refine lv_ifnonnull (tgt := 20) hx hb dK_told_7 (by decide) ?_
        refine lv_iload_n hx hb dK_told_20 rfl (lv_at hl 3 rfl) ?_
        rcases rng (v := v2) 2 (by decide) with hb9 | hb9
        · obtain ⟨j9, hj9, rfl⟩ := hb9
          match j9, hj9 with
          | 0, _ =>
            refine lv_tableIn (off := 27) (tgt := 48) hx hb dK_told_21 (by decide) (by decide) (by decide) (by decide) ?_
            refine lv_aload_n hx hb dK_told_48 rfl (lv_at hl 0 rfl) ?_
            refine ty_get (ci := 13) (C := "LatticeKeys$KeyPair") (TT := T_KP) (N := 3) (kd := (16, 3)) hx hb hts (wg_ft i_KP) hown hK hO kr51 (nxg clo_nil kr51 rfl) hP (fun _ h9 => h9) rfl 0 (by decide) (hts _ (wg_t kw_746)) (fun _ h9 => h9) (cd := (1, 0, 3)) rfl dK_told_49 (fun v54 hv54 => ?_)
            obtain rfl := (show v54 = .int (nI 3) from hv54)
            refine et_ret ?_
            exact mp_iret hx hb hr hlk hP hD hS ((T, tl, al, pn), pl) ⟨⟨⟨(by show tl ≤ 16384; omega), (by show al ≤ 8192; omega), (by show pn ≤ 8; omega), hXT, hU⟩, trivial⟩, hO⟩ [0] rfl rfl rfl (by omega) (by omega) dK_told_52
          | 1, _ =>
            refine lv_tableIn (off := 32) (tgt := 53) hx hb dK_told_21 (by decide) (by decide) (by decide) (by decide) ?_
            refine lv_aload_n hx hb dK_told_53 rfl (lv_at hl 0 rfl) ?_
            refine ty_get (ci := 13) (C := "LatticeKeys$KeyPair") (TT := T_KP) (N := 3) (kd := (16, 3)) hx hb hts (wg_ft i_KP) hown hK hO kr51 (nxg clo_nil kr51 rfl) hP (fun _ h9 => h9) rfl 1 (by decide) (hts _ (wg_t kw_749)) (fun _ h9 => h9) (cd := (3, 1, 1312)) rfl dK_told_54 (fun v55 hv55 => ?_)
            obtain ⟨r43, rfl, kr52⟩ := (show ∃ r : Nat, v55 = .ref r ∧ T r = some (1, 1312) from hv55)
            refine ty_alen1 hx hb hK hO kr52 (nxg clo_nil kr52 rfl) hP dK_told_57 ?_
            refine et_ret ?_
            exact mp_iret hx hb hr hlk hP hD hS ((T, tl, al, pn), pl) ⟨⟨⟨(by show tl ≤ 16384; omega), (by show al ≤ 8192; omega), (by show pn ≤ 8; omega), hXT, hU⟩, trivial⟩, hO⟩ [0] rfl rfl rfl (by omega) (by omega) dK_told_58
          | 2, _ =>
            refine lv_tableIn (off := 38) (tgt := 59) hx hb dK_told_21 (by decide) (by decide) (by decide) (by decide) ?_
            refine lv_aload_n hx hb dK_told_59 rfl (lv_at hl 0 rfl) ?_
            refine ty_get (ci := 13) (C := "LatticeKeys$KeyPair") (TT := T_KP) (N := 3) (kd := (16, 3)) hx hb hts (wg_ft i_KP) hown hK hO kr51 (nxg clo_nil kr51 rfl) hP (fun _ h9 => h9) rfl 2 (by decide) (hts _ (wg_t kw_752)) (fun _ h9 => h9) (cd := (7, 0, 0)) rfl dK_told_60 (fun v56 hv56 => ?_)
            obtain rfl := (show v56 = .null from hv56)
            refine lv_ifnonnullN hx hb dK_told_63 ?_
            refine lv_iconst (v := nI 0) hx hb dK_told_66 (by decide) ?_
            refine lv_goto (tgt := 75) hx hb dK_told_67 (by decide) ?_
            refine et_ret ?_
            exact mp_iret hx hb hr hlk hP hD hS ((T, tl, al, pn), pl) ⟨⟨⟨(by show tl ≤ 16384; omega), (by show al ≤ 8192; omega), (by show pn ≤ 8; omega), hXT, hU⟩, trivial⟩, hO⟩ [0] rfl rfl rfl (by omega) (by omega) dK_told_75
          | _ + 3, h9 => exact absurd h9 (by omega)
        · refine lv_tableOut (tgt := 76) hx hb dK_told_21 (tout (by decide) hb9) (by decide) ?_
          exact et_throw (own := "LatticeKeys") (cls := "java/lang/IllegalArgumentException") (text := "nothing of that number is told") (names := ["java/lang/RuntimeException", "java/lang/Exception"]) (ik := 79) (is := 177) (ic := 83) hx hb htr ctr_IAE_0 ctr_IAE_1 ctr_IAE_2 ctr_IAE_5 hown (by decide) (by decide) (hts _ (wg_t kw_501)) (hts _ (wg_t kw_18)) (hX.2.2.2.2.2.1 10 ("LatticeKeys", 177, "nothing of that number is told") rfl) (hat_IAE hts hX.2) hS.1 (hl.1.trans hml.symm) dK_told_76 dK_told_79 dK_told_80 dK_told_82 dK_told_85 htab (Nat.le_of_ble_eq_true rfl) (Nat.le_of_ble_eq_true rfl) (Nat.le_of_ble_eq_true rfl) (Nat.le_of_ble_eq_true rfl) hlk (Nat.le_of_ble_eq_true rfl) (Nat.le_of_ble_eq_true rfl) (List.mem_cons_of_mem _ List.mem_cons_self) hS.2.2 (thr_st hX.2) (fun t hz9 hk9 => ⟨⟨((T, tl, al, pn), pl), ⟨⟨⟨(by show tl ≤ 16384; omega), (by show al ≤ 8192; omega), (by show pn ≤ 8; omega), hXT, hU⟩, trivial⟩, hO⟩, lc_P hP hk9, hD⟩, (lc_S hS hz9 hk9).F rfl⟩)
      | 4, _, hk9 =>
        have kr53 : T q21 = some (16, 4) := hk9
        refine lv_astore_n (lv' := [(3, .ref q21), (0, .ref h0), (1, .int v), (2, .int v2)]) hx hb dK_told_5 rfl hl (by decide) rfl (fun ls hl => ?_)
        refine lv_aload_n hx hb dK_told_6 rfl (lv_at hl 0 rfl) ?_
        refine lv_ifnonnull (tgt := 20) hx hb dK_told_7 (by decide) ?_
        refine lv_iload_n hx hb dK_told_20 rfl (lv_at hl 3 rfl) ?_
        rcases rng (v := v2) 2 (by decide) with hb9 | hb9
        · obtain ⟨j9, hj9, rfl⟩ := hb9
          match j9, hj9 with
          | 0, _ =>
            refine lv_tableIn (off := 27) (tgt := 48) hx hb dK_told_21 (by decide) (by decide) (by decide) (by decide) ?_
            refine lv_aload_n hx hb dK_told_48 rfl (lv_at hl 0 rfl) ?_
            refine ty_get (ci := 13) (C := "LatticeKeys$KeyPair") (TT := T_KP) (N := 3) (kd := (16, 4)) hx hb hts (wg_ft i_KP) hown hK hO kr53 (nxg clo_nil kr53 rfl) hP (fun _ h9 => h9) rfl 0 (by decide) (hts _ (wg_t kw_746)) (fun _ h9 => h9) (cd := (1, 0, 4)) rfl dK_told_49 (fun v57 hv57 => ?_)
            obtain rfl := (show v57 = .int (nI 4) from hv57)
            refine et_ret ?_
            exact mp_iret hx hb hr hlk hP hD hS ((T, tl, al, pn), pl) ⟨⟨⟨(by show tl ≤ 16384; omega), (by show al ≤ 8192; omega), (by show pn ≤ 8; omega), hXT, hU⟩, trivial⟩, hO⟩ [0] rfl rfl rfl (by omega) (by omega) dK_told_52
          | 1, _ =>
            refine lv_tableIn (off := 32) (tgt := 53) hx hb dK_told_21 (by decide) (by decide) (by decide) (by decide) ?_
            refine lv_aload_n hx hb dK_told_53 rfl (lv_at hl 0 rfl) ?_
            refine ty_get (ci := 13) (C := "LatticeKeys$KeyPair") (TT := T_KP) (N := 3) (kd := (16, 4)) hx hb hts (wg_ft i_KP) hown hK hO kr53 (nxg clo_nil kr53 rfl) hP (fun _ h9 => h9) rfl 1 (by decide) (hts _ (wg_t kw_749)) (fun _ h9 => h9) (cd := (3, 1, 1952)) rfl dK_told_54 (fun v58 hv58 => ?_)
            obtain ⟨r44, rfl, kr54⟩ := (show ∃ r : Nat, v58 = .ref r ∧ T r = some (1, 1952) from hv58)
            refine ty_alen1 hx hb hK hO kr54 (nxg clo_nil kr54 rfl) hP dK_told_57 ?_
            refine et_ret ?_
            exact mp_iret hx hb hr hlk hP hD hS ((T, tl, al, pn), pl) ⟨⟨⟨(by show tl ≤ 16384; omega), (by show al ≤ 8192; omega), (by show pn ≤ 8; omega), hXT, hU⟩, trivial⟩, hO⟩ [0] rfl rfl rfl (by omega) (by omega) dK_told_58
          | 2, _ =>
            refine lv_tableIn (off := 38) (tgt := 59) hx hb dK_told_21 (by decide) (by decide) (by decide) (by decide) ?_
            refine lv_aload_n hx hb dK_told_59 rfl (lv_at hl 0 rfl) ?_
            refine ty_get (ci := 13) (C := "LatticeKeys$KeyPair") (TT := T_KP) (N := 3) (kd := (16, 4)) hx hb hts (wg_ft i_KP) hown hK hO kr53 (nxg clo_nil kr53 rfl) hP (fun _ h9 => h9) rfl 2 (by decide) (hts _ (wg_t kw_752)) (fun _ h9 => h9) (cd := (7, 0, 0)) rfl dK_told_60 (fun v59 hv59 => ?_)
            obtain rfl := (show v59 = .null from hv59)
            refine lv_ifnonnullN hx hb dK_told_63 ?_
            refine lv_iconst (v := nI 0) hx hb dK_told_66 (by decide) ?_
            refine lv_goto (tgt := 75) hx hb dK_told_67 (by decide) ?_
            refine et_ret ?_
            exact mp_iret hx hb hr hlk hP hD hS ((T, tl, al, pn), pl) ⟨⟨⟨(by show tl ≤ 16384; omega), (by show al ≤ 8192; omega), (by show pn ≤ 8; omega), hXT, hU⟩, trivial⟩, hO⟩ [0] rfl rfl rfl (by omega) (by omega) dK_told_75
          | _ + 3, h9 => exact absurd h9 (by omega)
        · refine lv_tableOut (tgt := 76) hx hb dK_told_21 (tout (by decide) hb9) (by decide) ?_
          exact et_throw (own := "LatticeKeys") (cls := "java/lang/IllegalArgumentException") (text := "nothing of that number is told") (names := ["java/lang/RuntimeException", "java/lang/Exception"]) (ik := 79) (is := 177) (ic := 83) hx hb htr ctr_IAE_0 ctr_IAE_1 ctr_IAE_2 ctr_IAE_5 hown (by decide) (by decide) (hts _ (wg_t kw_501)) (hts _ (wg_t kw_18)) (hX.2.2.2.2.2.1 10 ("LatticeKeys", 177, "nothing of that number is told") rfl) (hat_IAE hts hX.2) hS.1 (hl.1.trans hml.symm) dK_told_76 dK_told_79 dK_told_80 dK_told_82 dK_told_85 htab (Nat.le_of_ble_eq_true rfl) (Nat.le_of_ble_eq_true rfl) (Nat.le_of_ble_eq_true rfl) (Nat.le_of_ble_eq_true rfl) hlk (Nat.le_of_ble_eq_true rfl) (Nat.le_of_ble_eq_true rfl) (List.mem_cons_of_mem _ List.mem_cons_self) hS.2.2 (thr_st hX.2) (fun t hz9 hk9 => ⟨⟨((T, tl, al, pn), pl), ⟨⟨⟨(by show tl ≤ 16384; omega), (by show al ≤ 8192; omega), (by show pn ≤ 8; omega), hXT, hU⟩, trivial⟩, hO⟩, lc_P hP hk9, hD⟩, (lc_S hS hz9 hk9).F rfl⟩)
      | 5, _, hk9 =>
        have kr55 : T q21 = some (16, 5) := hk9
        refine lv_astore_n (lv' := [(3, .ref q21), (0, .ref h0), (1, .int v), (2, .int v2)]) hx hb dK_told_5 rfl hl (by decide) rfl (fun ls hl => ?_)
        refine lv_aload_n hx hb dK_told_6 rfl (lv_at hl 0 rfl) ?_
        refine lv_ifnonnull (tgt := 20) hx hb dK_told_7 (by decide) ?_
        refine lv_iload_n hx hb dK_told_20 rfl (lv_at hl 3 rfl) ?_
        rcases rng (v := v2) 2 (by decide) with hb9 | hb9
        · obtain ⟨j9, hj9, rfl⟩ := hb9
          match j9, hj9 with
          | 0, _ =>
            refine lv_tableIn (off := 27) (tgt := 48) hx hb dK_told_21 (by decide) (by decide) (by decide) (by decide) ?_
            refine lv_aload_n hx hb dK_told_48 rfl (lv_at hl 0 rfl) ?_
            refine ty_get (ci := 13) (C := "LatticeKeys$KeyPair") (TT := T_KP) (N := 3) (kd := (16, 5)) hx hb hts (wg_ft i_KP) hown hK hO kr55 (nxg clo_nil kr55 rfl) hP (fun _ h9 => h9) rfl 0 (by decide) (hts _ (wg_t kw_746)) (fun _ h9 => h9) (cd := (1, 0, 5)) rfl dK_told_49 (fun v60 hv60 => ?_)
            obtain rfl := (show v60 = .int (nI 5) from hv60)
            refine et_ret ?_
            exact mp_iret hx hb hr hlk hP hD hS ((T, tl, al, pn), pl) ⟨⟨⟨(by show tl ≤ 16384; omega), (by show al ≤ 8192; omega), (by show pn ≤ 8; omega), hXT, hU⟩, trivial⟩, hO⟩ [0] rfl rfl rfl (by omega) (by omega) dK_told_52
          | 1, _ =>
            refine lv_tableIn (off := 32) (tgt := 53) hx hb dK_told_21 (by decide) (by decide) (by decide) (by decide) ?_
            refine lv_aload_n hx hb dK_told_53 rfl (lv_at hl 0 rfl) ?_
            refine ty_get (ci := 13) (C := "LatticeKeys$KeyPair") (TT := T_KP) (N := 3) (kd := (16, 5)) hx hb hts (wg_ft i_KP) hown hK hO kr55 (nxg clo_nil kr55 rfl) hP (fun _ h9 => h9) rfl 1 (by decide) (hts _ (wg_t kw_749)) (fun _ h9 => h9) (cd := (3, 1, 2592)) rfl dK_told_54 (fun v61 hv61 => ?_)
            obtain ⟨r45, rfl, kr56⟩ := (show ∃ r : Nat, v61 = .ref r ∧ T r = some (1, 2592) from hv61)
            refine ty_alen1 hx hb hK hO kr56 (nxg clo_nil kr56 rfl) hP dK_told_57 ?_
            refine et_ret ?_
            exact mp_iret hx hb hr hlk hP hD hS ((T, tl, al, pn), pl) ⟨⟨⟨(by show tl ≤ 16384; omega), (by show al ≤ 8192; omega), (by show pn ≤ 8; omega), hXT, hU⟩, trivial⟩, hO⟩ [0] rfl rfl rfl (by omega) (by omega) dK_told_58
          | 2, _ =>
            refine lv_tableIn (off := 38) (tgt := 59) hx hb dK_told_21 (by decide) (by decide) (by decide) (by decide) ?_
            refine lv_aload_n hx hb dK_told_59 rfl (lv_at hl 0 rfl) ?_
            refine ty_get (ci := 13) (C := "LatticeKeys$KeyPair") (TT := T_KP) (N := 3) (kd := (16, 5)) hx hb hts (wg_ft i_KP) hown hK hO kr55 (nxg clo_nil kr55 rfl) hP (fun _ h9 => h9) rfl 2 (by decide) (hts _ (wg_t kw_752)) (fun _ h9 => h9) (cd := (7, 0, 0)) rfl dK_told_60 (fun v62 hv62 => ?_)
            obtain rfl := (show v62 = .null from hv62)
            refine lv_ifnonnullN hx hb dK_told_63 ?_
            refine lv_iconst (v := nI 0) hx hb dK_told_66 (by decide) ?_
            refine lv_goto (tgt := 75) hx hb dK_told_67 (by decide) ?_
            refine et_ret ?_
            exact mp_iret hx hb hr hlk hP hD hS ((T, tl, al, pn), pl) ⟨⟨⟨(by show tl ≤ 16384; omega), (by show al ≤ 8192; omega), (by show pn ≤ 8; omega), hXT, hU⟩, trivial⟩, hO⟩ [0] rfl rfl rfl (by omega) (by omega) dK_told_75
          | _ + 3, h9 => exact absurd h9 (by omega)
        · refine lv_tableOut (tgt := 76) hx hb dK_told_21 (tout (by decide) hb9) (by decide) ?_
          exact et_throw (own := "LatticeKeys") (cls := "java/lang/IllegalArgumentException") (text := "nothing of that number is told") (names := ["java/lang/RuntimeException", "java/lang/Exception"]) (ik := 79) (is := 177) (ic := 83) hx hb htr ctr_IAE_0 ctr_IAE_1 ctr_IAE_2 ctr_IAE_5 hown (by decide) (by decide) (hts _ (wg_t kw_501)) (hts _ (wg_t kw_18)) (hX.2.2.2.2.2.1 10 ("LatticeKeys", 177, "nothing of that number is told") rfl) (hat_IAE hts hX.2) hS.1 (hl.1.trans hml.symm) dK_told_76 dK_told_79 dK_told_80 dK_told_82 dK_told_85 htab (Nat.le_of_ble_eq_true rfl) (Nat.le_of_ble_eq_true rfl) (Nat.le_of_ble_eq_true rfl) (Nat.le_of_ble_eq_true rfl) hlk (Nat.le_of_ble_eq_true rfl) (Nat.le_of_ble_eq_true rfl) (List.mem_cons_of_mem _ List.mem_cons_self) hS.2.2 (thr_st hX.2) (fun t hz9 hk9 => ⟨⟨((T, tl, al, pn), pl), ⟨⟨⟨(by show tl ≤ 16384; omega), (by show al ≤ 8192; omega), (by show pn ≤ 8; omega), hXT, hU⟩, trivial⟩, hO⟩, lc_P hP hk9, hD⟩, (lc_S hS hz9 hk9).F rfl⟩)
      | _ + 6, h9, _ => exact absurd h9 (by omega)
set_option maxHeartbeats 4000000 in
set_option maxRecDepth 100000 in
theorem e_K_hash (l : Launch) (htr : l.stackTraces = false) (g : Gd) (sz : Nat) (T : Ty) (pl : va_W) (hO : okx g T [] pl) (hU : uni T) (v : Int32) (v2 : Int32) (h0 kt ka kp kks kds ksp kkm kda tl al pn : Nat) (k_kt : T kt = some (1, 16384)) (k_ka : T ka = some (1, 8192)) (k_kp : T kp = some (6, 0)) (k_kks : T kks = some (50, 0)) (k_kds : T kds = some (51, 0)) (k_ksp : T ksp = some (10, 0)) (k_kkm : T kkm = some (13, 0)) (k_kda : T kda = some (15, 0)) (hb : tl ≤ 16384 ∧ al ≤ 8192 ∧ pn ≤ 8)  : etMet l y_K_hash w_K_hash ({ frames := 6, cells := 1, slots := 6, locals := 100 } : Room) (va_Pc [.ref h0, .int v, .int v2] (pr (ex g) g.1 vcl sz ([(h0, .inr (0, [.ref kt, .int (nI tl), .ref ka, .int (nI al), .ref kp, .int (nI pn), .ref kks, .ref kds, .ref ksp, .ref kkm, .ref kda]))] ++ pl))) ["java/lang/IllegalArgumentException"] (va_Qi (fun (r : Int32) (u : (Ty × Nat × Nat × Nat) × va_W) => ((u.1.2.1 ≤ 16384 ∧ u.1.2.2.1 ≤ 8192 ∧ u.1.2.2.2 ≤ 8 ∧ ext T u.1.1 ∧ uni u.1.1) ∧ ((hval v v2).1 = nI 0 ∧ r = (hval v v2).2)) ∧ okx g u.1.1 [] u.2) (po g.1 vcl (va_A ([(h0, .inr (0, [.ref kt, .int (nI tl), .ref ka, .int (nI al), .ref kp, .int (nI pn), .ref kks, .ref kds, .ref ksp, .ref kkm, .ref kda]))] ++ pl) sz) (fun (u : (Ty × Nat × Nat × Nat) × va_W) => [(h0, .inr (0, [.ref kt, .int (nI (u.1.2.1)), .ref ka, .int (nI (u.1.2.2.1)), .ref kp, .int (nI (u.1.2.2.2)), .ref kks, .ref kds, .ref ksp, .ref kkm, .ref kda]))] ++ u.2)) (va_A ([(h0, .inr (0, [.ref kt, .int (nI tl), .ref ka, .int (nI al), .ref kp, .int (nI pn), .ref kks, .ref kds, .ref ksp, .ref kkm, .ref kda]))] ++ pl) sz)) (xtP (fun (u : (Ty × Nat × Nat × Nat) × va_W) => ((u.1.2.1 ≤ 16384 ∧ u.1.2.2.1 ≤ 8192 ∧ u.1.2.2.2 ≤ 8 ∧ ext T u.1.1 ∧ uni u.1.1) ∧ ((hval v v2).1 = nI 1)) ∧ okx g u.1.1 [] u.2) (po g.1 vcl (va_A ([(h0, .inr (0, [.ref kt, .int (nI tl), .ref ka, .int (nI al), .ref kp, .int (nI pn), .ref kks, .ref kds, .ref ksp, .ref kkm, .ref kda]))] ++ pl) sz) (fun (u : (Ty × Nat × Nat × Nat) × va_W) => [(h0, .inr (0, [.ref kt, .int (nI (u.1.2.1)), .ref ka, .int (nI (u.1.2.2.1)), .ref kp, .int (nI (u.1.2.2.2)), .ref kks, .ref kds, .ref ksp, .ref kkm, .ref kda]))] ++ u.2)) (va_A ([(h0, .inr (0, [.ref kt, .int (nI tl), .ref ka, .int (nI al), .ref kp, .int (nI pn), .ref kks, .ref kds, .ref ksp, .ref kkm, .ref kda]))] ++ pl) sz)) 1 6 (va_A ([(h0, .inr (0, [.ref kt, .int (nI tl), .ref ka, .int (nI al), .ref kp, .int (nI pn), .ref kks, .ref kds, .ref ksp, .ref kkm, .ref kda]))] ++ pl) sz) := by
  refine et_entry (cc := c_K_hash) (maxL := 3) (ret := (some .int)) (by decide) rfl (Nat.le_of_ble_eq_true rfl) ?_
  intro p e s m args below meth c ls F hr hlk htab hsz hP hD hX hA hl
  obtain ⟨hx, hb, hml, hown, hts⟩ := id F
  have hE := hX.1
  have hK := hE.1
  generalize va_A ([(h0, .inr (0, [.ref kt, .int (nI tl), .ref ka, .int (nI al), .ref kp, .int (nI pn), .ref kks, .ref kds, .ref ksp, .ref kkm, .ref kda]))] ++ pl) sz = A at hD hX hE hA ⊢
  have hXT : ext T T := ext_rf
  have hS : va_S A s.heap s.heap [] := va_S.rf
  have hl : lv_has ls 3 [(0, .ref h0), (1, .int v), (2, .int v2)] := hl
  rcases rng (v := v) 3 (by decide) with hb9 | hb9
  · obtain ⟨j9, hj9, rfl⟩ := hb9
    match j9, hj9 with
    | 0, _ =>
      refine lv_iload_n hx hb dK_hash_0 rfl (lv_at hl 1 rfl) ?_
      refine lv_if_lt (tgt := 20) hx hb dK_hash_1 (by decide) (fun h21 => absurd h21 (by decide)) (fun h21 => ?_)
      refine lv_iload_n hx hb dK_hash_4 rfl (lv_at hl 1 rfl) ?_
      refine lv_iconst (v := nI 3) hx hb dK_hash_5 (by decide) ?_
      refine mi_gt (tgt := 20) hx hb dK_hash_6 (by decide) (by omega) (by omega) (fun h22 => absurd h22 (by omega)) (fun h22 => ?_)
      refine lv_iload_n hx hb dK_hash_9 rfl (lv_at hl 2 rfl) ?_
      refine lv_if_lt (tgt := 20) hx hb dK_hash_10 (by decide) (fun h23 => ?_) (fun h23 => ?_)
      · exact et_throw (own := "LatticeKeys") (cls := "java/lang/IllegalArgumentException") (text := "no such hash or length") (names := ["java/lang/RuntimeException", "java/lang/Exception"]) (ik := 79) (is := 226) (ic := 83) hx hb htr ctr_IAE_0 ctr_IAE_1 ctr_IAE_2 ctr_IAE_5 hown (by decide) (by decide) (hts _ (wg_t kw_501)) (hts _ (wg_t kw_18)) (hX.2.2.2.2.2.1 19 ("LatticeKeys", 226, "no such hash or length") rfl) (hat_IAE hts hX.2) hS.1 (hl.1.trans hml.symm) dK_hash_20 dK_hash_23 dK_hash_24 dK_hash_26 dK_hash_29 htab (Nat.le_of_ble_eq_true rfl) (Nat.le_of_ble_eq_true rfl) (Nat.le_of_ble_eq_true rfl) (Nat.le_of_ble_eq_true rfl) hlk (Nat.le_of_ble_eq_true rfl) (Nat.le_of_ble_eq_true rfl) List.mem_cons_self hS.2.2 (thr_st hX.2) (fun t hz9 hk9 => ⟨⟨((T, tl, al, pn), pl), ⟨⟨⟨(by show tl ≤ 16384; omega), (by show al ≤ 8192; omega), (by show pn ≤ 8; omega), hXT, hU⟩, (by rw [hval_bad (Or.inr (Or.inr (Or.inl h23)))])⟩, hO⟩, lc_P hP hk9, hD⟩, (lc_S hS hz9 hk9).F rfl⟩)
      · refine lv_iload_n hx hb dK_hash_13 rfl (lv_at hl 2 rfl) ?_
        refine lv_sipush (v := nI 8192) hx hb dK_hash_14 (by decide) ?_
        refine lv_icmp_le (tgt := 30) hx hb dK_hash_17 (by decide) (fun h24 => ?_) (fun h24 => ?_)
        · obtain ⟨z21, hz21, rfl⟩ := i32_le h23 (by omega) h24
          refine lv_aload_n hx hb dK_hash_30 rfl (lv_at hl 0 rfl) ?_
          refine lv_iload_n hx hb dK_hash_31 rfl (lv_at hl 1 rfl) ?_
          refine lv_if_ne (tgt := 40) hx hb dK_hash_32 (by decide) (fun h25 => absurd h25 (by decide)) (fun h25 => ?_)
          refine lv_bipush (v := nI 32) hx hb dK_hash_35 (by decide) ?_
          refine lv_goto (tgt := 51) hx hb dK_hash_37 (by decide) ?_
          refine va_put (D := g.1) (ci := 0) (v := .int (nI 32)) (ty := .int) (C := "LatticeKeys") (T := T_K) (N := 11) hx hb hts (wg_ft i_K) ty_K k_K n_K hown hK hP hD hS 0 rfl rfl 3 (by decide) (hts _ (wg_t kw_377)) (fun _ h9 => h9) rfl (by decide +kernel) rfl rfl (Nat.le_of_ble_eq_true rfl) dK_hash_51 (fun H locs hP hD hS => ?_)
          have hP : va_P g.1 vcl ([(h0, .inr (0, [.ref kt, .int (nI tl), .ref ka, .int (nI 32), .ref kp, .int (nI pn), .ref kks, .ref kds, .ref ksp, .ref kkm, .ref kda]))] ++ pl) _ := hP
          have hD : va_D _ ([(h0, .inr (0, [.ref kt, .int (nI tl), .ref ka, .int (nI 32), .ref kp, .int (nI pn), .ref kks, .ref kds, .ref ksp, .ref kkm, .ref kda]))] ++ pl) := hD
          refine lv_aload_n hx hb dK_hash_54 rfl (lv_at hl 0 rfl) ?_
          refine va_get (D := g.1) (ci := 0) (C := "LatticeKeys") (T := T_K) (N := 11) hx hb hts (wg_ft i_K) hown hK hP 0 rfl rfl 8 (by decide) (hts _ (wg_t kw_382)) (fun _ h9 => h9) rfl dK_hash_55 ?_
          refine lv_iload_n hx hb dK_hash_58 rfl (lv_at hl 1 rfl) ?_
          obtain ⟨e21, pl, hP, hD, hk21, hO⟩ := open1 hP hD hO k_ksp (nxg clo_nil k_ksp rfl)
          obtain ⟨ln21, rt21, ps21, x21, rfl, kl21, hr21, hr22, hr23⟩ := hk21
          have kl21 : T ln21 = some (19, 0) := kl21
          obtain ⟨e22, pl, hP, hD, hk22, hO⟩ := open1 hP hD hO kl21 (nmc (knd_ne kl21 k_ksp (by decide)) (nxg clo_nil kl21 rfl))
          obtain ⟨f21, rfl⟩ := hk22
          have hP : va_P g.1 vcl ([(h0, .inr (0, [.ref kt, .int (nI tl), .ref ka, .int (nI 32), .ref kp, .int (nI pn), .ref kks, .ref kds, .ref ksp, .ref kkm, .ref kda])), (ksp, .inr (3, [.ref ln21, .int (nI rt21), .int x21, .int (nI ps21)])), (ln21, .inl (g.2.1 2, 25, .inr (.inl f21)))] ++ pl) _ := hP
          have hD : va_D _ ([(h0, .inr (0, [.ref kt, .int (nI tl), .ref ka, .int (nI 32), .ref kp, .int (nI pn), .ref kks, .ref kds, .ref ksp, .ref kkm, .ref kda])), (ksp, .inr (3, [.ref ln21, .int (nI rt21), .int x21, .int (nI ps21)])), (ln21, .inl (g.2.1 2, 25, .inr (.inl f21)))] ++ pl) := hD
          refine mp_v (cx := [(ksp, .inr (3, [.ref ln21, .int (nI rt21), .int x21, .int (nI ps21)])), (ln21, .inl (g.2.1 2, 25, .inr (.inl f21)))]) (wr := [(h0, .inr (0, [.ref kt, .int (nI tl), .ref ka, .int (nI 32), .ref kp, .int (nI pn), .ref kks, .ref kds, .ref ksp, .ref kkm, .ref kda]))]) hP hD hS hA [1, 2] [0] rfl rfl rfl (by decide) (va_runV (As := [.int (nI 0)]) (rest := []) F (t_SP_start_0 l g _ T (ln21 :: (ksp :: [])) pl hO hU  ksp ln21 rt21 ps21 x21 f21) (cwV 1 hts (wg_app (wg_c kw_1299 (wg_c kw_579 (wg_c kw_580 (wg_c kw_2 wg_n)))) kw_581) rfl rfl rfl (by decide +kernel) ⟨by decide, by decide⟩) (pp_V (en_ok g) (q0 := 1) hK hP hD hS hA hE [1, 2] rfl rfl rfl rfl) rfl rfl hl.1 rfl (lv_room (Nat.le_of_ble_eq_true rfl)) dK_hash_59 ⟨Nat.le_of_ble_eq_true rfl, Nat.le_of_ble_eq_true rfl⟩) (fun  u21 H locs hu21 hP hD hS => ?_)
          obtain ⟨u22, pl⟩ := u21
          obtain ⟨hq21, hO⟩ := hu21
          have hP : va_P g.1 vcl ([(h0, .inr (0, [.ref kt, .int (nI tl), .ref ka, .int (nI 32), .ref kp, .int (nI pn), .ref kks, .ref kds, .ref ksp, .ref kkm, .ref kda])), (ksp, .inr (3, [.ref ln21, .int (nI 136), .int (nI 6), .int (nI 0)])), (ln21, .inl (g.2.1 2, 25, .inr (.inl u22)))] ++ pl) _ := hP
          have hD : va_D _ ([(h0, .inr (0, [.ref kt, .int (nI tl), .ref ka, .int (nI 32), .ref kp, .int (nI pn), .ref kks, .ref kds, .ref ksp, .ref kkm, .ref kda])), (ksp, .inr (3, [.ref ln21, .int (nI 136), .int (nI 6), .int (nI 0)])), (ln21, .inl (g.2.1 2, 25, .inr (.inl u22)))] ++ pl) := hD
          refine W.widen (k := 0) (n := 0) (by omega) (by omega) ?_
          refine lv_aload_n hx hb dK_hash_62 rfl (lv_at hl 0 rfl) ?_
          refine va_get (D := g.1) (ci := 0) (C := "LatticeKeys") (T := T_K) (N := 11) hx hb hts (wg_ft i_K) hown hK hP 0 rfl rfl 8 (by decide) (hts _ (wg_t kw_382)) (fun _ h9 => h9) rfl dK_hash_63 ?_
          refine lv_aload_n hx hb dK_hash_66 rfl (lv_at hl 0 rfl) ?_
          refine va_get (D := g.1) (ci := 0) (C := "LatticeKeys") (T := T_K) (N := 11) hx hb hts (wg_ft i_K) hown hK hP 0 rfl rfl 0 (by decide) (hts _ (wg_t kw_374)) (fun _ h9 => h9) rfl dK_hash_67 ?_
          refine lv_iconst (v := nI 0) hx hb dK_hash_70 (by decide) ?_
          refine lv_aload_n hx hb dK_hash_71 rfl (lv_at hl 0 rfl) ?_
          refine va_get (D := g.1) (ci := 0) (C := "LatticeKeys") (T := T_K) (N := 11) hx hb hts (wg_ft i_K) hown hK hP 0 rfl rfl 1 (by decide) (hts _ (wg_t kw_375)) (fun _ h9 => h9) rfl dK_hash_72 ?_
          refine mp_v (cx := [(ksp, .inr (3, [.ref ln21, .int (nI 136), .int (nI 6), .int (nI 0)])), (ln21, .inl (g.2.1 2, 25, .inr (.inl u22)))]) (wr := [(h0, .inr (0, [.ref kt, .int (nI tl), .ref ka, .int (nI 32), .ref kp, .int (nI pn), .ref kks, .ref kds, .ref ksp, .ref kkm, .ref kda]))]) hP hD hS hA [1, 2] [0] rfl rfl rfl (by decide) (va_runV (As := [.ref kt, .int (nI 0), .int (nI tl)]) (rest := []) F (t_SP_absorb l g _ T (ln21 :: (ksp :: [])) pl hO hU (clo_cons (clo_cons clo_nil k_ksp (by decide)) kl21 (by decide)) kt 16384 0 tl ksp ln21 136 0 (nI 6) u22 k_kt (by omega) (by omega) (by omega) (by omega)) (cwV 3 hts (wg_app (wg_c kw_1300 (wg_c kw_586 (wg_c kw_587 (wg_c kw_2 wg_n)))) kw_588) rfl rfl rfl (by decide +kernel) ⟨by decide, by decide⟩) (pp_V (en_ok g) (q0 := 1) hK hP hD hS hA hE [1, 2] rfl rfl rfl rfl) rfl rfl hl.1 rfl (lv_room (Nat.le_of_ble_eq_true rfl)) dK_hash_75 ⟨Nat.le_of_ble_eq_true rfl, Nat.le_of_ble_eq_true rfl⟩) (fun  u23 H locs hu22 hP hD hS => ?_)
          obtain ⟨u24, pl⟩ := u23
          obtain ⟨hq22, hO⟩ := hu22
          obtain ⟨k21, f22⟩ := u24
          have hP : va_P g.1 vcl ([(h0, .inr (0, [.ref kt, .int (nI tl), .ref ka, .int (nI 32), .ref kp, .int (nI pn), .ref kks, .ref kds, .ref ksp, .ref kkm, .ref kda])), (ksp, .inr (3, [.ref ln21, .int (nI 136), .int (nI 6), .int (nI k21)])), (ln21, .inl (g.2.1 2, 25, .inr (.inl f22)))] ++ pl) _ := hP
          have hD : va_D _ ([(h0, .inr (0, [.ref kt, .int (nI tl), .ref ka, .int (nI 32), .ref kp, .int (nI pn), .ref kks, .ref kds, .ref ksp, .ref kkm, .ref kda])), (ksp, .inr (3, [.ref ln21, .int (nI 136), .int (nI 6), .int (nI k21)])), (ln21, .inl (g.2.1 2, 25, .inr (.inl f22)))] ++ pl) := hD
          have hq22 : k21 < 136 := hq22
          refine W.widen (k := 0) (n := 0) (by omega) (by omega) ?_
          refine lv_aload_n hx hb dK_hash_78 rfl (lv_at hl 0 rfl) ?_
          refine va_get (D := g.1) (ci := 0) (C := "LatticeKeys") (T := T_K) (N := 11) hx hb hts (wg_ft i_K) hown hK hP 0 rfl rfl 8 (by decide) (hts _ (wg_t kw_382)) (fun _ h9 => h9) rfl dK_hash_79 ?_
          refine mp_v (cx := [(ksp, .inr (3, [.ref ln21, .int (nI 136), .int (nI 6), .int (nI k21)])), (ln21, .inl (g.2.1 2, 25, .inr (.inl f22)))]) (wr := [(h0, .inr (0, [.ref kt, .int (nI tl), .ref ka, .int (nI 32), .ref kp, .int (nI pn), .ref kks, .ref kds, .ref ksp, .ref kkm, .ref kda]))]) hP hD hS hA [1, 2] [0] rfl rfl rfl (by decide) (va_runV (As := []) (rest := []) F (t_SP_finish l g _ T (ln21 :: (ksp :: [])) pl hO hU  ksp ln21 136 k21 (nI 6) f22 (by omega) (by omega)) (cwV 0 hts (wg_app (wg_c kw_1301 (wg_c kw_611 (wg_c kw_612 (wg_c kw_2 wg_n)))) kw_613) rfl rfl rfl (by decide +kernel) ⟨by decide, by decide⟩) (pp_V (en_ok g) (q0 := 1) hK hP hD hS hA hE [1, 2] rfl rfl rfl rfl) rfl rfl hl.1 rfl (lv_room (Nat.le_of_ble_eq_true rfl)) dK_hash_82 ⟨Nat.le_of_ble_eq_true rfl, Nat.le_of_ble_eq_true rfl⟩) (fun  u25 H locs hu23 hP hD hS => ?_)
          obtain ⟨u26, pl⟩ := u25
          obtain ⟨hq23, hO⟩ := hu23
          have hP : va_P g.1 vcl ([(h0, .inr (0, [.ref kt, .int (nI tl), .ref ka, .int (nI 32), .ref kp, .int (nI pn), .ref kks, .ref kds, .ref ksp, .ref kkm, .ref kda])), (ksp, .inr (3, [.ref ln21, .int (nI 136), .int (nI 6), .int (nI 136)])), (ln21, .inl (g.2.1 2, 25, .inr (.inl u26)))] ++ pl) _ := hP
          have hD : va_D _ ([(h0, .inr (0, [.ref kt, .int (nI tl), .ref ka, .int (nI 32), .ref kp, .int (nI pn), .ref kks, .ref kds, .ref ksp, .ref kkm, .ref kda])), (ksp, .inr (3, [.ref ln21, .int (nI 136), .int (nI 6), .int (nI 136)])), (ln21, .inl (g.2.1 2, 25, .inr (.inl u26)))] ++ pl) := hD
          refine W.widen (k := 0) (n := 0) (by omega) (by omega) ?_
          refine lv_aload_n hx hb dK_hash_85 rfl (lv_at hl 0 rfl) ?_
          refine va_get (D := g.1) (ci := 0) (C := "LatticeKeys") (T := T_K) (N := 11) hx hb hts (wg_ft i_K) hown hK hP 0 rfl rfl 8 (by decide) (hts _ (wg_t kw_382)) (fun _ h9 => h9) rfl dK_hash_86 ?_
          refine lv_aload_n hx hb dK_hash_89 rfl (lv_at hl 0 rfl) ?_
          refine va_get (D := g.1) (ci := 0) (C := "LatticeKeys") (T := T_K) (N := 11) hx hb hts (wg_ft i_K) hown hK hP 0 rfl rfl 2 (by decide) (hts _ (wg_t kw_376)) (fun _ h9 => h9) rfl dK_hash_90 ?_
          refine lv_iconst (v := nI 0) hx hb dK_hash_93 (by decide) ?_
          refine lv_aload_n hx hb dK_hash_94 rfl (lv_at hl 0 rfl) ?_
          refine va_get (D := g.1) (ci := 0) (C := "LatticeKeys") (T := T_K) (N := 11) hx hb hts (wg_ft i_K) hown hK hP 0 rfl rfl 3 (by decide) (hts _ (wg_t kw_377)) (fun _ h9 => h9) rfl dK_hash_95 ?_
          refine mp_v (cx := [(ksp, .inr (3, [.ref ln21, .int (nI 136), .int (nI 6), .int (nI 136)])), (ln21, .inl (g.2.1 2, 25, .inr (.inl u26)))]) (wr := [(h0, .inr (0, [.ref kt, .int (nI tl), .ref ka, .int (nI 32), .ref kp, .int (nI pn), .ref kks, .ref kds, .ref ksp, .ref kkm, .ref kda]))]) hP hD hS hA [1, 2] [0] rfl rfl rfl (by decide) (va_runV (As := [.ref ka, .int (nI 0), .int (nI 32)]) (rest := []) F (t_SP_squeeze l g _ T (ln21 :: (ksp :: [])) pl hO hU (clo_cons (clo_cons clo_nil k_ksp (by decide)) kl21 (by decide)) ka 8192 0 32 ksp ln21 136 136 (nI 6) u26 k_ka (by omega) (by omega) (by omega) (by omega)) (cwV 3 hts (wg_app (wg_c kw_1302 (wg_c kw_615 (wg_c kw_616 (wg_c kw_2 wg_n)))) kw_617) rfl rfl rfl (by decide +kernel) ⟨by decide, by decide⟩) (pp_V (en_ok g) (q0 := 1) hK hP hD hS hA hE [1, 2] rfl rfl rfl rfl) rfl rfl hl.1 rfl (lv_room (Nat.le_of_ble_eq_true rfl)) dK_hash_98 ⟨Nat.le_of_ble_eq_true rfl, Nat.le_of_ble_eq_true rfl⟩) (fun  u27 H locs hu24 hP hD hS => ?_)
          obtain ⟨u28, pl⟩ := u27
          obtain ⟨hq24, hO⟩ := hu24
          obtain ⟨k22, f23⟩ := u28
          have hP : va_P g.1 vcl ([(h0, .inr (0, [.ref kt, .int (nI tl), .ref ka, .int (nI 32), .ref kp, .int (nI pn), .ref kks, .ref kds, .ref ksp, .ref kkm, .ref kda])), (ksp, .inr (3, [.ref ln21, .int (nI 136), .int (nI 6), .int (nI k22)])), (ln21, .inl (g.2.1 2, 25, .inr (.inl f23)))] ++ pl) _ := hP
          have hD : va_D _ ([(h0, .inr (0, [.ref kt, .int (nI tl), .ref ka, .int (nI 32), .ref kp, .int (nI pn), .ref kks, .ref kds, .ref ksp, .ref kkm, .ref kda])), (ksp, .inr (3, [.ref ln21, .int (nI 136), .int (nI 6), .int (nI k22)])), (ln21, .inl (g.2.1 2, 25, .inr (.inl f23)))] ++ pl) := hD
          have hq24 : k22 ≤ 136 := hq24
          refine W.widen (k := 0) (n := 0) (by omega) (by omega) ?_
          refine lv_aload_n hx hb dK_hash_101 rfl (lv_at hl 0 rfl) ?_
          refine lv_iconst (v := nI 0) hx hb dK_hash_102 (by decide) ?_
          refine va_put (D := g.1) (ci := 0) (v := .int (nI 0)) (ty := .int) (C := "LatticeKeys") (T := T_K) (N := 11) hx hb hts (wg_ft i_K) ty_K k_K n_K hown hK hP hD hS 0 rfl rfl 1 (by decide) (hts _ (wg_t kw_375)) (fun _ h9 => h9) rfl (by decide +kernel) rfl rfl (Nat.le_of_ble_eq_true rfl) dK_hash_103 (fun H locs hP hD hS => ?_)
          have hP : va_P g.1 vcl ([(h0, .inr (0, [.ref kt, .int (nI 0), .ref ka, .int (nI 32), .ref kp, .int (nI pn), .ref kks, .ref kds, .ref ksp, .ref kkm, .ref kda])), (ksp, .inr (3, [.ref ln21, .int (nI 136), .int (nI 6), .int (nI k22)])), (ln21, .inl (g.2.1 2, 25, .inr (.inl f23)))] ++ pl) _ := hP
          have hD : va_D _ ([(h0, .inr (0, [.ref kt, .int (nI 0), .ref ka, .int (nI 32), .ref kp, .int (nI pn), .ref kks, .ref kds, .ref ksp, .ref kkm, .ref kda])), (ksp, .inr (3, [.ref ln21, .int (nI 136), .int (nI 6), .int (nI k22)])), (ln21, .inl (g.2.1 2, 25, .inr (.inl f23)))] ++ pl) := hD
          refine lv_aload_n hx hb dK_hash_106 rfl (lv_at hl 0 rfl) ?_
          refine va_get (D := g.1) (ci := 0) (C := "LatticeKeys") (T := T_K) (N := 11) hx hb hts (wg_ft i_K) hown hK hP 0 rfl rfl 3 (by decide) (hts _ (wg_t kw_377)) (fun _ h9 => h9) rfl dK_hash_107 ?_
          have hO := close1 (e := .inl (g.2.1 2, 25, .inr (.inl f23))) hO kl21 ⟨_, rfl⟩
          have hO := close1 (e := .inr (3, [.ref ln21, .int (nI 136), .int (nI 6), .int (nI k22)])) hO k_ksp ⟨_, _, _, _, rfl, kl21, by omega, by omega, by omega⟩
          have hO : okx g T [] ((ksp, .inr (3, [.ref ln21, .int (nI 136), .int (nI 6), .int (nI k22)])) :: (ln21, .inl (g.2.1 2, 25, .inr (.inl f23))) :: pl) := hO
          have hP : va_P g.1 vcl ([(h0, .inr (0, [.ref kt, .int (nI 0), .ref ka, .int (nI 32), .ref kp, .int (nI pn), .ref kks, .ref kds, .ref ksp, .ref kkm, .ref kda]))] ++ ((ksp, .inr (3, [.ref ln21, .int (nI 136), .int (nI 6), .int (nI k22)])) :: (ln21, .inl (g.2.1 2, 25, .inr (.inl f23))) :: pl)) _ := hP
          have hD : va_D _ ([(h0, .inr (0, [.ref kt, .int (nI 0), .ref ka, .int (nI 32), .ref kp, .int (nI pn), .ref kks, .ref kds, .ref ksp, .ref kkm, .ref kda]))] ++ ((ksp, .inr (3, [.ref ln21, .int (nI 136), .int (nI 6), .int (nI k22)])) :: (ln21, .inl (g.2.1 2, 25, .inr (.inl f23))) :: pl)) := hD
          generalize ((ksp, .inr (3, [.ref ln21, .int (nI 136), .int (nI 6), .int (nI k22)])) :: (ln21, .inl (g.2.1 2, 25, .inr (.inl f23))) :: pl) = pl at hO hP hD
          refine et_ret ?_
          exact mp_iret hx hb hr hlk hP hD hS ((T, 0, 32, pn), pl) ⟨⟨⟨(by show 0 ≤ 16384; omega), (by show 32 ≤ 8192; omega), (by show pn ≤ 8; omega), hXT, hU⟩, (by rw [hv0 (by omega)]; exact ⟨rfl, rfl⟩)⟩, hO⟩ [0] rfl rfl rfl (by omega) (by omega) dK_hash_110
        · exact et_throw (own := "LatticeKeys") (cls := "java/lang/IllegalArgumentException") (text := "no such hash or length") (names := ["java/lang/RuntimeException", "java/lang/Exception"]) (ik := 79) (is := 226) (ic := 83) hx hb htr ctr_IAE_0 ctr_IAE_1 ctr_IAE_2 ctr_IAE_5 hown (by decide) (by decide) (hts _ (wg_t kw_501)) (hts _ (wg_t kw_18)) (hX.2.2.2.2.2.1 19 ("LatticeKeys", 226, "no such hash or length") rfl) (hat_IAE hts hX.2) hS.1 (hl.1.trans hml.symm) dK_hash_20 dK_hash_23 dK_hash_24 dK_hash_26 dK_hash_29 htab (Nat.le_of_ble_eq_true rfl) (Nat.le_of_ble_eq_true rfl) (Nat.le_of_ble_eq_true rfl) (Nat.le_of_ble_eq_true rfl) hlk (Nat.le_of_ble_eq_true rfl) (Nat.le_of_ble_eq_true rfl) List.mem_cons_self hS.2.2 (thr_st hX.2) (fun t hz9 hk9 => ⟨⟨((T, tl, al, pn), pl), ⟨⟨⟨(by show tl ≤ 16384; omega), (by show al ≤ 8192; omega), (by show pn ≤ 8; omega), hXT, hU⟩, (by rw [hval_bad (Or.inr (Or.inr (Or.inr (Int32.not_le.mp h24))))])⟩, hO⟩, lc_P hP hk9, hD⟩, (lc_S hS hz9 hk9).F rfl⟩)
    | 1, _ =>
      refine lv_iload_n hx hb dK_hash_0 rfl (lv_at hl 1 rfl) ?_
      refine lv_if_lt (tgt := 20) hx hb dK_hash_1 (by decide) (fun h26 => absurd h26 (by decide)) (fun h26 => ?_)
      refine lv_iload_n hx hb dK_hash_4 rfl (lv_at hl 1 rfl) ?_
      refine lv_iconst (v := nI 3) hx hb dK_hash_5 (by decide) ?_
      refine mi_gt (tgt := 20) hx hb dK_hash_6 (by decide) (by omega) (by omega) (fun h27 => absurd h27 (by omega)) (fun h27 => ?_)
      refine lv_iload_n hx hb dK_hash_9 rfl (lv_at hl 2 rfl) ?_
      refine lv_if_lt (tgt := 20) hx hb dK_hash_10 (by decide) (fun h28 => ?_) (fun h28 => ?_)
      · exact et_throw (own := "LatticeKeys") (cls := "java/lang/IllegalArgumentException") (text := "no such hash or length") (names := ["java/lang/RuntimeException", "java/lang/Exception"]) (ik := 79) (is := 226) (ic := 83) hx hb htr ctr_IAE_0 ctr_IAE_1 ctr_IAE_2 ctr_IAE_5 hown (by decide) (by decide) (hts _ (wg_t kw_501)) (hts _ (wg_t kw_18)) (hX.2.2.2.2.2.1 19 ("LatticeKeys", 226, "no such hash or length") rfl) (hat_IAE hts hX.2) hS.1 (hl.1.trans hml.symm) dK_hash_20 dK_hash_23 dK_hash_24 dK_hash_26 dK_hash_29 htab (Nat.le_of_ble_eq_true rfl) (Nat.le_of_ble_eq_true rfl) (Nat.le_of_ble_eq_true rfl) (Nat.le_of_ble_eq_true rfl) hlk (Nat.le_of_ble_eq_true rfl) (Nat.le_of_ble_eq_true rfl) List.mem_cons_self hS.2.2 (thr_st hX.2) (fun t hz9 hk9 => ⟨⟨((T, tl, al, pn), pl), ⟨⟨⟨(by show tl ≤ 16384; omega), (by show al ≤ 8192; omega), (by show pn ≤ 8; omega), hXT, hU⟩, (by rw [hval_bad (Or.inr (Or.inr (Or.inl h28)))])⟩, hO⟩, lc_P hP hk9, hD⟩, (lc_S hS hz9 hk9).F rfl⟩)
      · refine lv_iload_n hx hb dK_hash_13 rfl (lv_at hl 2 rfl) ?_
        refine lv_sipush (v := nI 8192) hx hb dK_hash_14 (by decide) ?_
        refine lv_icmp_le (tgt := 30) hx hb dK_hash_17 (by decide) (fun h29 => ?_) (fun h29 => ?_)
        · obtain ⟨z22, hz22, rfl⟩ := i32_le h28 (by omega) h29
          refine lv_aload_n hx hb dK_hash_30 rfl (lv_at hl 0 rfl) ?_
          refine lv_iload_n hx hb dK_hash_31 rfl (lv_at hl 1 rfl) ?_
          refine lv_if_ne (tgt := 40) hx hb dK_hash_32 (by decide) (fun h30 => ?_) (fun h30 => absurd h30 (by decide))
          refine lv_iload_n hx hb dK_hash_40 rfl (lv_at hl 1 rfl) ?_
          refine lv_iconst (v := nI 1) hx hb dK_hash_41 (by decide) ?_
          refine mi_ne (tgt := 50) hx hb dK_hash_42 (by decide) (by omega) (by omega) (fun h31 => absurd h31 (by omega)) (fun h31 => ?_)
          refine lv_bipush (v := nI 64) hx hb dK_hash_45 (by decide) ?_
          refine lv_goto (tgt := 51) hx hb dK_hash_47 (by decide) ?_
          refine va_put (D := g.1) (ci := 0) (v := .int (nI 64)) (ty := .int) (C := "LatticeKeys") (T := T_K) (N := 11) hx hb hts (wg_ft i_K) ty_K k_K n_K hown hK hP hD hS 0 rfl rfl 3 (by decide) (hts _ (wg_t kw_377)) (fun _ h9 => h9) rfl (by decide +kernel) rfl rfl (Nat.le_of_ble_eq_true rfl) dK_hash_51 (fun H locs hP hD hS => ?_)
          have hP : va_P g.1 vcl ([(h0, .inr (0, [.ref kt, .int (nI tl), .ref ka, .int (nI 64), .ref kp, .int (nI pn), .ref kks, .ref kds, .ref ksp, .ref kkm, .ref kda]))] ++ pl) _ := hP
          have hD : va_D _ ([(h0, .inr (0, [.ref kt, .int (nI tl), .ref ka, .int (nI 64), .ref kp, .int (nI pn), .ref kks, .ref kds, .ref ksp, .ref kkm, .ref kda]))] ++ pl) := hD
          refine lv_aload_n hx hb dK_hash_54 rfl (lv_at hl 0 rfl) ?_
          refine va_get (D := g.1) (ci := 0) (C := "LatticeKeys") (T := T_K) (N := 11) hx hb hts (wg_ft i_K) hown hK hP 0 rfl rfl 8 (by decide) (hts _ (wg_t kw_382)) (fun _ h9 => h9) rfl dK_hash_55 ?_
          refine lv_iload_n hx hb dK_hash_58 rfl (lv_at hl 1 rfl) ?_
          obtain ⟨e23, pl, hP, hD, hk23, hO⟩ := open1 hP hD hO k_ksp (nxg clo_nil k_ksp rfl)
          obtain ⟨ln22, rt22, ps22, x22, rfl, kl22, hr24, hr25, hr26⟩ := hk23
          have kl22 : T ln22 = some (19, 0) := kl22
          obtain ⟨e24, pl, hP, hD, hk24, hO⟩ := open1 hP hD hO kl22 (nmc (knd_ne kl22 k_ksp (by decide)) (nxg clo_nil kl22 rfl))
          obtain ⟨f24, rfl⟩ := hk24
          have hP : va_P g.1 vcl ([(h0, .inr (0, [.ref kt, .int (nI tl), .ref ka, .int (nI 64), .ref kp, .int (nI pn), .ref kks, .ref kds, .ref ksp, .ref kkm, .ref kda])), (ksp, .inr (3, [.ref ln22, .int (nI rt22), .int x22, .int (nI ps22)])), (ln22, .inl (g.2.1 2, 25, .inr (.inl f24)))] ++ pl) _ := hP
          have hD : va_D _ ([(h0, .inr (0, [.ref kt, .int (nI tl), .ref ka, .int (nI 64), .ref kp, .int (nI pn), .ref kks, .ref kds, .ref ksp, .ref kkm, .ref kda])), (ksp, .inr (3, [.ref ln22, .int (nI rt22), .int x22, .int (nI ps22)])), (ln22, .inl (g.2.1 2, 25, .inr (.inl f24)))] ++ pl) := hD
          refine mp_v (cx := [(ksp, .inr (3, [.ref ln22, .int (nI rt22), .int x22, .int (nI ps22)])), (ln22, .inl (g.2.1 2, 25, .inr (.inl f24)))]) (wr := [(h0, .inr (0, [.ref kt, .int (nI tl), .ref ka, .int (nI 64), .ref kp, .int (nI pn), .ref kks, .ref kds, .ref ksp, .ref kkm, .ref kda]))]) hP hD hS hA [1, 2] [0] rfl rfl rfl (by decide) (va_runV (As := [.int (nI 1)]) (rest := []) F (t_SP_start_1 l g _ T (ln22 :: (ksp :: [])) pl hO hU  ksp ln22 rt22 ps22 x22 f24) (cwV 1 hts (wg_app (wg_c kw_1299 (wg_c kw_579 (wg_c kw_580 (wg_c kw_2 wg_n)))) kw_581) rfl rfl rfl (by decide +kernel) ⟨by decide, by decide⟩) (pp_V (en_ok g) (q0 := 1) hK hP hD hS hA hE [1, 2] rfl rfl rfl rfl) rfl rfl hl.1 rfl (lv_room (Nat.le_of_ble_eq_true rfl)) dK_hash_59 ⟨Nat.le_of_ble_eq_true rfl, Nat.le_of_ble_eq_true rfl⟩) (fun  u29 H locs hu25 hP hD hS => ?_)
          obtain ⟨u30, pl⟩ := u29
          obtain ⟨hq25, hO⟩ := hu25
          have hP : va_P g.1 vcl ([(h0, .inr (0, [.ref kt, .int (nI tl), .ref ka, .int (nI 64), .ref kp, .int (nI pn), .ref kks, .ref kds, .ref ksp, .ref kkm, .ref kda])), (ksp, .inr (3, [.ref ln22, .int (nI 72), .int (nI 6), .int (nI 0)])), (ln22, .inl (g.2.1 2, 25, .inr (.inl u30)))] ++ pl) _ := hP
          have hD : va_D _ ([(h0, .inr (0, [.ref kt, .int (nI tl), .ref ka, .int (nI 64), .ref kp, .int (nI pn), .ref kks, .ref kds, .ref ksp, .ref kkm, .ref kda])), (ksp, .inr (3, [.ref ln22, .int (nI 72), .int (nI 6), .int (nI 0)])), (ln22, .inl (g.2.1 2, 25, .inr (.inl u30)))] ++ pl) := hD
          refine W.widen (k := 0) (n := 0) (by omega) (by omega) ?_
          refine lv_aload_n hx hb dK_hash_62 rfl (lv_at hl 0 rfl) ?_
          refine va_get (D := g.1) (ci := 0) (C := "LatticeKeys") (T := T_K) (N := 11) hx hb hts (wg_ft i_K) hown hK hP 0 rfl rfl 8 (by decide) (hts _ (wg_t kw_382)) (fun _ h9 => h9) rfl dK_hash_63 ?_
          refine lv_aload_n hx hb dK_hash_66 rfl (lv_at hl 0 rfl) ?_
          refine va_get (D := g.1) (ci := 0) (C := "LatticeKeys") (T := T_K) (N := 11) hx hb hts (wg_ft i_K) hown hK hP 0 rfl rfl 0 (by decide) (hts _ (wg_t kw_374)) (fun _ h9 => h9) rfl dK_hash_67 ?_
          refine lv_iconst (v := nI 0) hx hb dK_hash_70 (by decide) ?_
          refine lv_aload_n hx hb dK_hash_71 rfl (lv_at hl 0 rfl) ?_
          refine va_get (D := g.1) (ci := 0) (C := "LatticeKeys") (T := T_K) (N := 11) hx hb hts (wg_ft i_K) hown hK hP 0 rfl rfl 1 (by decide) (hts _ (wg_t kw_375)) (fun _ h9 => h9) rfl dK_hash_72 ?_
          refine mp_v (cx := [(ksp, .inr (3, [.ref ln22, .int (nI 72), .int (nI 6), .int (nI 0)])), (ln22, .inl (g.2.1 2, 25, .inr (.inl u30)))]) (wr := [(h0, .inr (0, [.ref kt, .int (nI tl), .ref ka, .int (nI 64), .ref kp, .int (nI pn), .ref kks, .ref kds, .ref ksp, .ref kkm, .ref kda]))]) hP hD hS hA [1, 2] [0] rfl rfl rfl (by decide) (va_runV (As := [.ref kt, .int (nI 0), .int (nI tl)]) (rest := []) F (t_SP_absorb l g _ T (ln22 :: (ksp :: [])) pl hO hU (clo_cons (clo_cons clo_nil k_ksp (by decide)) kl22 (by decide)) kt 16384 0 tl ksp ln22 72 0 (nI 6) u30 k_kt (by omega) (by omega) (by omega) (by omega)) (cwV 3 hts (wg_app (wg_c kw_1300 (wg_c kw_586 (wg_c kw_587 (wg_c kw_2 wg_n)))) kw_588) rfl rfl rfl (by decide +kernel) ⟨by decide, by decide⟩) (pp_V (en_ok g) (q0 := 1) hK hP hD hS hA hE [1, 2] rfl rfl rfl rfl) rfl rfl hl.1 rfl (lv_room (Nat.le_of_ble_eq_true rfl)) dK_hash_75 ⟨Nat.le_of_ble_eq_true rfl, Nat.le_of_ble_eq_true rfl⟩) (fun  u31 H locs hu26 hP hD hS => ?_)
          obtain ⟨u32, pl⟩ := u31
          obtain ⟨hq26, hO⟩ := hu26
          obtain ⟨k23, f25⟩ := u32
          have hP : va_P g.1 vcl ([(h0, .inr (0, [.ref kt, .int (nI tl), .ref ka, .int (nI 64), .ref kp, .int (nI pn), .ref kks, .ref kds, .ref ksp, .ref kkm, .ref kda])), (ksp, .inr (3, [.ref ln22, .int (nI 72), .int (nI 6), .int (nI k23)])), (ln22, .inl (g.2.1 2, 25, .inr (.inl f25)))] ++ pl) _ := hP
          have hD : va_D _ ([(h0, .inr (0, [.ref kt, .int (nI tl), .ref ka, .int (nI 64), .ref kp, .int (nI pn), .ref kks, .ref kds, .ref ksp, .ref kkm, .ref kda])), (ksp, .inr (3, [.ref ln22, .int (nI 72), .int (nI 6), .int (nI k23)])), (ln22, .inl (g.2.1 2, 25, .inr (.inl f25)))] ++ pl) := hD
          have hq26 : k23 < 72 := hq26
          refine W.widen (k := 0) (n := 0) (by omega) (by omega) ?_
          refine lv_aload_n hx hb dK_hash_78 rfl (lv_at hl 0 rfl) ?_
          refine va_get (D := g.1) (ci := 0) (C := "LatticeKeys") (T := T_K) (N := 11) hx hb hts (wg_ft i_K) hown hK hP 0 rfl rfl 8 (by decide) (hts _ (wg_t kw_382)) (fun _ h9 => h9) rfl dK_hash_79 ?_
          refine mp_v (cx := [(ksp, .inr (3, [.ref ln22, .int (nI 72), .int (nI 6), .int (nI k23)])), (ln22, .inl (g.2.1 2, 25, .inr (.inl f25)))]) (wr := [(h0, .inr (0, [.ref kt, .int (nI tl), .ref ka, .int (nI 64), .ref kp, .int (nI pn), .ref kks, .ref kds, .ref ksp, .ref kkm, .ref kda]))]) hP hD hS hA [1, 2] [0] rfl rfl rfl (by decide) (va_runV (As := []) (rest := []) F (t_SP_finish l g _ T (ln22 :: (ksp :: [])) pl hO hU  ksp ln22 72 k23 (nI 6) f25 (by omega) (by omega)) (cwV 0 hts (wg_app (wg_c kw_1301 (wg_c kw_611 (wg_c kw_612 (wg_c kw_2 wg_n)))) kw_613) rfl rfl rfl (by decide +kernel) ⟨by decide, by decide⟩) (pp_V (en_ok g) (q0 := 1) hK hP hD hS hA hE [1, 2] rfl rfl rfl rfl) rfl rfl hl.1 rfl (lv_room (Nat.le_of_ble_eq_true rfl)) dK_hash_82 ⟨Nat.le_of_ble_eq_true rfl, Nat.le_of_ble_eq_true rfl⟩) (fun  u33 H locs hu27 hP hD hS => ?_)
          obtain ⟨u34, pl⟩ := u33
          obtain ⟨hq27, hO⟩ := hu27
          have hP : va_P g.1 vcl ([(h0, .inr (0, [.ref kt, .int (nI tl), .ref ka, .int (nI 64), .ref kp, .int (nI pn), .ref kks, .ref kds, .ref ksp, .ref kkm, .ref kda])), (ksp, .inr (3, [.ref ln22, .int (nI 72), .int (nI 6), .int (nI 72)])), (ln22, .inl (g.2.1 2, 25, .inr (.inl u34)))] ++ pl) _ := hP
          have hD : va_D _ ([(h0, .inr (0, [.ref kt, .int (nI tl), .ref ka, .int (nI 64), .ref kp, .int (nI pn), .ref kks, .ref kds, .ref ksp, .ref kkm, .ref kda])), (ksp, .inr (3, [.ref ln22, .int (nI 72), .int (nI 6), .int (nI 72)])), (ln22, .inl (g.2.1 2, 25, .inr (.inl u34)))] ++ pl) := hD
          refine W.widen (k := 0) (n := 0) (by omega) (by omega) ?_
          refine lv_aload_n hx hb dK_hash_85 rfl (lv_at hl 0 rfl) ?_
          refine va_get (D := g.1) (ci := 0) (C := "LatticeKeys") (T := T_K) (N := 11) hx hb hts (wg_ft i_K) hown hK hP 0 rfl rfl 8 (by decide) (hts _ (wg_t kw_382)) (fun _ h9 => h9) rfl dK_hash_86 ?_
          refine lv_aload_n hx hb dK_hash_89 rfl (lv_at hl 0 rfl) ?_
          refine va_get (D := g.1) (ci := 0) (C := "LatticeKeys") (T := T_K) (N := 11) hx hb hts (wg_ft i_K) hown hK hP 0 rfl rfl 2 (by decide) (hts _ (wg_t kw_376)) (fun _ h9 => h9) rfl dK_hash_90 ?_
          refine lv_iconst (v := nI 0) hx hb dK_hash_93 (by decide) ?_
          refine lv_aload_n hx hb dK_hash_94 rfl (lv_at hl 0 rfl) ?_
          refine va_get (D := g.1) (ci := 0) (C := "LatticeKeys") (T := T_K) (N := 11) hx hb hts (wg_ft i_K) hown hK hP 0 rfl rfl 3 (by decide) (hts _ (wg_t kw_377)) (fun _ h9 => h9) rfl dK_hash_95 ?_
          refine mp_v (cx := [(ksp, .inr (3, [.ref ln22, .int (nI 72), .int (nI 6), .int (nI 72)])), (ln22, .inl (g.2.1 2, 25, .inr (.inl u34)))]) (wr := [(h0, .inr (0, [.ref kt, .int (nI tl), .ref ka, .int (nI 64), .ref kp, .int (nI pn), .ref kks, .ref kds, .ref ksp, .ref kkm, .ref kda]))]) hP hD hS hA [1, 2] [0] rfl rfl rfl (by decide) (va_runV (As := [.ref ka, .int (nI 0), .int (nI 64)]) (rest := []) F (t_SP_squeeze l g _ T (ln22 :: (ksp :: [])) pl hO hU (clo_cons (clo_cons clo_nil k_ksp (by decide)) kl22 (by decide)) ka 8192 0 64 ksp ln22 72 72 (nI 6) u34 k_ka (by omega) (by omega) (by omega) (by omega)) (cwV 3 hts (wg_app (wg_c kw_1302 (wg_c kw_615 (wg_c kw_616 (wg_c kw_2 wg_n)))) kw_617) rfl rfl rfl (by decide +kernel) ⟨by decide, by decide⟩) (pp_V (en_ok g) (q0 := 1) hK hP hD hS hA hE [1, 2] rfl rfl rfl rfl) rfl rfl hl.1 rfl (lv_room (Nat.le_of_ble_eq_true rfl)) dK_hash_98 ⟨Nat.le_of_ble_eq_true rfl, Nat.le_of_ble_eq_true rfl⟩) (fun  u35 H locs hu28 hP hD hS => ?_)
          obtain ⟨u36, pl⟩ := u35
          obtain ⟨hq28, hO⟩ := hu28
          obtain ⟨k24, f26⟩ := u36
          have hP : va_P g.1 vcl ([(h0, .inr (0, [.ref kt, .int (nI tl), .ref ka, .int (nI 64), .ref kp, .int (nI pn), .ref kks, .ref kds, .ref ksp, .ref kkm, .ref kda])), (ksp, .inr (3, [.ref ln22, .int (nI 72), .int (nI 6), .int (nI k24)])), (ln22, .inl (g.2.1 2, 25, .inr (.inl f26)))] ++ pl) _ := hP
          have hD : va_D _ ([(h0, .inr (0, [.ref kt, .int (nI tl), .ref ka, .int (nI 64), .ref kp, .int (nI pn), .ref kks, .ref kds, .ref ksp, .ref kkm, .ref kda])), (ksp, .inr (3, [.ref ln22, .int (nI 72), .int (nI 6), .int (nI k24)])), (ln22, .inl (g.2.1 2, 25, .inr (.inl f26)))] ++ pl) := hD
          have hq28 : k24 ≤ 72 := hq28
          refine W.widen (k := 0) (n := 0) (by omega) (by omega) ?_
          refine lv_aload_n hx hb dK_hash_101 rfl (lv_at hl 0 rfl) ?_
          refine lv_iconst (v := nI 0) hx hb dK_hash_102 (by decide) ?_
          refine va_put (D := g.1) (ci := 0) (v := .int (nI 0)) (ty := .int) (C := "LatticeKeys") (T := T_K) (N := 11) hx hb hts (wg_ft i_K) ty_K k_K n_K hown hK hP hD hS 0 rfl rfl 1 (by decide) (hts _ (wg_t kw_375)) (fun _ h9 => h9) rfl (by decide +kernel) rfl rfl (Nat.le_of_ble_eq_true rfl) dK_hash_103 (fun H locs hP hD hS => ?_)
          have hP : va_P g.1 vcl ([(h0, .inr (0, [.ref kt, .int (nI 0), .ref ka, .int (nI 64), .ref kp, .int (nI pn), .ref kks, .ref kds, .ref ksp, .ref kkm, .ref kda])), (ksp, .inr (3, [.ref ln22, .int (nI 72), .int (nI 6), .int (nI k24)])), (ln22, .inl (g.2.1 2, 25, .inr (.inl f26)))] ++ pl) _ := hP
          have hD : va_D _ ([(h0, .inr (0, [.ref kt, .int (nI 0), .ref ka, .int (nI 64), .ref kp, .int (nI pn), .ref kks, .ref kds, .ref ksp, .ref kkm, .ref kda])), (ksp, .inr (3, [.ref ln22, .int (nI 72), .int (nI 6), .int (nI k24)])), (ln22, .inl (g.2.1 2, 25, .inr (.inl f26)))] ++ pl) := hD
          refine lv_aload_n hx hb dK_hash_106 rfl (lv_at hl 0 rfl) ?_
          refine va_get (D := g.1) (ci := 0) (C := "LatticeKeys") (T := T_K) (N := 11) hx hb hts (wg_ft i_K) hown hK hP 0 rfl rfl 3 (by decide) (hts _ (wg_t kw_377)) (fun _ h9 => h9) rfl dK_hash_107 ?_
          have hO := close1 (e := .inl (g.2.1 2, 25, .inr (.inl f26))) hO kl22 ⟨_, rfl⟩
          have hO := close1 (e := .inr (3, [.ref ln22, .int (nI 72), .int (nI 6), .int (nI k24)])) hO k_ksp ⟨_, _, _, _, rfl, kl22, by omega, by omega, by omega⟩
          have hO : okx g T [] ((ksp, .inr (3, [.ref ln22, .int (nI 72), .int (nI 6), .int (nI k24)])) :: (ln22, .inl (g.2.1 2, 25, .inr (.inl f26))) :: pl) := hO
          have hP : va_P g.1 vcl ([(h0, .inr (0, [.ref kt, .int (nI 0), .ref ka, .int (nI 64), .ref kp, .int (nI pn), .ref kks, .ref kds, .ref ksp, .ref kkm, .ref kda]))] ++ ((ksp, .inr (3, [.ref ln22, .int (nI 72), .int (nI 6), .int (nI k24)])) :: (ln22, .inl (g.2.1 2, 25, .inr (.inl f26))) :: pl)) _ := hP
          have hD : va_D _ ([(h0, .inr (0, [.ref kt, .int (nI 0), .ref ka, .int (nI 64), .ref kp, .int (nI pn), .ref kks, .ref kds, .ref ksp, .ref kkm, .ref kda]))] ++ ((ksp, .inr (3, [.ref ln22, .int (nI 72), .int (nI 6), .int (nI k24)])) :: (ln22, .inl (g.2.1 2, 25, .inr (.inl f26))) :: pl)) := hD
          generalize ((ksp, .inr (3, [.ref ln22, .int (nI 72), .int (nI 6), .int (nI k24)])) :: (ln22, .inl (g.2.1 2, 25, .inr (.inl f26))) :: pl) = pl at hO hP hD
          refine et_ret ?_
          exact mp_iret hx hb hr hlk hP hD hS ((T, 0, 64, pn), pl) ⟨⟨⟨(by show 0 ≤ 16384; omega), (by show 64 ≤ 8192; omega), (by show pn ≤ 8; omega), hXT, hU⟩, (by rw [hv1 (by omega)]; exact ⟨rfl, rfl⟩)⟩, hO⟩ [0] rfl rfl rfl (by omega) (by omega) dK_hash_110
        · exact et_throw (own := "LatticeKeys") (cls := "java/lang/IllegalArgumentException") (text := "no such hash or length") (names := ["java/lang/RuntimeException", "java/lang/Exception"]) (ik := 79) (is := 226) (ic := 83) hx hb htr ctr_IAE_0 ctr_IAE_1 ctr_IAE_2 ctr_IAE_5 hown (by decide) (by decide) (hts _ (wg_t kw_501)) (hts _ (wg_t kw_18)) (hX.2.2.2.2.2.1 19 ("LatticeKeys", 226, "no such hash or length") rfl) (hat_IAE hts hX.2) hS.1 (hl.1.trans hml.symm) dK_hash_20 dK_hash_23 dK_hash_24 dK_hash_26 dK_hash_29 htab (Nat.le_of_ble_eq_true rfl) (Nat.le_of_ble_eq_true rfl) (Nat.le_of_ble_eq_true rfl) (Nat.le_of_ble_eq_true rfl) hlk (Nat.le_of_ble_eq_true rfl) (Nat.le_of_ble_eq_true rfl) List.mem_cons_self hS.2.2 (thr_st hX.2) (fun t hz9 hk9 => ⟨⟨((T, tl, al, pn), pl), ⟨⟨⟨(by show tl ≤ 16384; omega), (by show al ≤ 8192; omega), (by show pn ≤ 8; omega), hXT, hU⟩, (by rw [hval_bad (Or.inr (Or.inr (Or.inr (Int32.not_le.mp h29))))])⟩, hO⟩, lc_P hP hk9, hD⟩, (lc_S hS hz9 hk9).F rfl⟩)
    | 2, _ =>
      refine lv_iload_n hx hb dK_hash_0 rfl (lv_at hl 1 rfl) ?_
      refine lv_if_lt (tgt := 20) hx hb dK_hash_1 (by decide) (fun h32 => absurd h32 (by decide)) (fun h32 => ?_)
      refine lv_iload_n hx hb dK_hash_4 rfl (lv_at hl 1 rfl) ?_
      refine lv_iconst (v := nI 3) hx hb dK_hash_5 (by decide) ?_
      refine mi_gt (tgt := 20) hx hb dK_hash_6 (by decide) (by omega) (by omega) (fun h33 => absurd h33 (by omega)) (fun h33 => ?_)
      refine lv_iload_n hx hb dK_hash_9 rfl (lv_at hl 2 rfl) ?_
      refine lv_if_lt (tgt := 20) hx hb dK_hash_10 (by decide) (fun h34 => ?_) (fun h34 => ?_)
      · exact et_throw (own := "LatticeKeys") (cls := "java/lang/IllegalArgumentException") (text := "no such hash or length") (names := ["java/lang/RuntimeException", "java/lang/Exception"]) (ik := 79) (is := 226) (ic := 83) hx hb htr ctr_IAE_0 ctr_IAE_1 ctr_IAE_2 ctr_IAE_5 hown (by decide) (by decide) (hts _ (wg_t kw_501)) (hts _ (wg_t kw_18)) (hX.2.2.2.2.2.1 19 ("LatticeKeys", 226, "no such hash or length") rfl) (hat_IAE hts hX.2) hS.1 (hl.1.trans hml.symm) dK_hash_20 dK_hash_23 dK_hash_24 dK_hash_26 dK_hash_29 htab (Nat.le_of_ble_eq_true rfl) (Nat.le_of_ble_eq_true rfl) (Nat.le_of_ble_eq_true rfl) (Nat.le_of_ble_eq_true rfl) hlk (Nat.le_of_ble_eq_true rfl) (Nat.le_of_ble_eq_true rfl) List.mem_cons_self hS.2.2 (thr_st hX.2) (fun t hz9 hk9 => ⟨⟨((T, tl, al, pn), pl), ⟨⟨⟨(by show tl ≤ 16384; omega), (by show al ≤ 8192; omega), (by show pn ≤ 8; omega), hXT, hU⟩, (by rw [hval_bad (Or.inr (Or.inr (Or.inl h34)))])⟩, hO⟩, lc_P hP hk9, hD⟩, (lc_S hS hz9 hk9).F rfl⟩)
      · refine lv_iload_n hx hb dK_hash_13 rfl (lv_at hl 2 rfl) ?_
        refine lv_sipush (v := nI 8192) hx hb dK_hash_14 (by decide) ?_
        refine lv_icmp_le (tgt := 30) hx hb dK_hash_17 (by decide) (fun h35 => ?_) (fun h35 => ?_)
        · obtain ⟨z23, hz23, rfl⟩ := i32_le h34 (by omega) h35
          refine lv_aload_n hx hb dK_hash_30 rfl (lv_at hl 0 rfl) ?_
          refine lv_iload_n hx hb dK_hash_31 rfl (lv_at hl 1 rfl) ?_
          refine lv_if_ne (tgt := 40) hx hb dK_hash_32 (by decide) (fun h36 => ?_) (fun h36 => absurd h36 (by decide))
          refine lv_iload_n hx hb dK_hash_40 rfl (lv_at hl 1 rfl) ?_
          refine lv_iconst (v := nI 1) hx hb dK_hash_41 (by decide) ?_
          refine mi_ne (tgt := 50) hx hb dK_hash_42 (by decide) (by omega) (by omega) (fun h37 => ?_) (fun h37 => absurd h37 (by omega))
          refine lv_iload_n hx hb dK_hash_50 rfl (lv_at hl 2 rfl) ?_
          refine va_put (D := g.1) (ci := 0) (v := .int (nI z23)) (ty := .int) (C := "LatticeKeys") (T := T_K) (N := 11) hx hb hts (wg_ft i_K) ty_K k_K n_K hown hK hP hD hS 0 rfl rfl 3 (by decide) (hts _ (wg_t kw_377)) (fun _ h9 => h9) rfl (by decide +kernel) rfl rfl (Nat.le_of_ble_eq_true rfl) dK_hash_51 (fun H locs hP hD hS => ?_)
          have hP : va_P g.1 vcl ([(h0, .inr (0, [.ref kt, .int (nI tl), .ref ka, .int (nI z23), .ref kp, .int (nI pn), .ref kks, .ref kds, .ref ksp, .ref kkm, .ref kda]))] ++ pl) _ := hP
          have hD : va_D _ ([(h0, .inr (0, [.ref kt, .int (nI tl), .ref ka, .int (nI z23), .ref kp, .int (nI pn), .ref kks, .ref kds, .ref ksp, .ref kkm, .ref kda]))] ++ pl) := hD
          refine lv_aload_n hx hb dK_hash_54 rfl (lv_at hl 0 rfl) ?_
          refine va_get (D := g.1) (ci := 0) (C := "LatticeKeys") (T := T_K) (N := 11) hx hb hts (wg_ft i_K) hown hK hP 0 rfl rfl 8 (by decide) (hts _ (wg_t kw_382)) (fun _ h9 => h9) rfl dK_hash_55 ?_
          refine lv_iload_n hx hb dK_hash_58 rfl (lv_at hl 1 rfl) ?_
          obtain ⟨e25, pl, hP, hD, hk25, hO⟩ := open1 hP hD hO k_ksp (nxg clo_nil k_ksp rfl)
          obtain ⟨ln23, rt23, ps23, x23, rfl, kl23, hr27, hr28, hr29⟩ := hk25
          have kl23 : T ln23 = some (19, 0) := kl23
          obtain ⟨e26, pl, hP, hD, hk26, hO⟩ := open1 hP hD hO kl23 (nmc (knd_ne kl23 k_ksp (by decide)) (nxg clo_nil kl23 rfl))
          obtain ⟨f27, rfl⟩ := hk26
          have hP : va_P g.1 vcl ([(h0, .inr (0, [.ref kt, .int (nI tl), .ref ka, .int (nI z23), .ref kp, .int (nI pn), .ref kks, .ref kds, .ref ksp, .ref kkm, .ref kda])), (ksp, .inr (3, [.ref ln23, .int (nI rt23), .int x23, .int (nI ps23)])), (ln23, .inl (g.2.1 2, 25, .inr (.inl f27)))] ++ pl) _ := hP
          have hD : va_D _ ([(h0, .inr (0, [.ref kt, .int (nI tl), .ref ka, .int (nI z23), .ref kp, .int (nI pn), .ref kks, .ref kds, .ref ksp, .ref kkm, .ref kda])), (ksp, .inr (3, [.ref ln23, .int (nI rt23), .int x23, .int (nI ps23)])), (ln23, .inl (g.2.1 2, 25, .inr (.inl f27)))] ++ pl) := hD
          refine mp_v (cx := [(ksp, .inr (3, [.ref ln23, .int (nI rt23), .int x23, .int (nI ps23)])), (ln23, .inl (g.2.1 2, 25, .inr (.inl f27)))]) (wr := [(h0, .inr (0, [.ref kt, .int (nI tl), .ref ka, .int (nI z23), .ref kp, .int (nI pn), .ref kks, .ref kds, .ref ksp, .ref kkm, .ref kda]))]) hP hD hS hA [1, 2] [0] rfl rfl rfl (by decide) (va_runV (As := [.int (nI 2)]) (rest := []) F (t_SP_start_2 l g _ T (ln23 :: (ksp :: [])) pl hO hU  ksp ln23 rt23 ps23 x23 f27) (cwV 1 hts (wg_app (wg_c kw_1299 (wg_c kw_579 (wg_c kw_580 (wg_c kw_2 wg_n)))) kw_581) rfl rfl rfl (by decide +kernel) ⟨by decide, by decide⟩) (pp_V (en_ok g) (q0 := 1) hK hP hD hS hA hE [1, 2] rfl rfl rfl rfl) rfl rfl hl.1 rfl (lv_room (Nat.le_of_ble_eq_true rfl)) dK_hash_59 ⟨Nat.le_of_ble_eq_true rfl, Nat.le_of_ble_eq_true rfl⟩) (fun  u37 H locs hu29 hP hD hS => ?_)
          obtain ⟨u38, pl⟩ := u37
          obtain ⟨hq29, hO⟩ := hu29
          have hP : va_P g.1 vcl ([(h0, .inr (0, [.ref kt, .int (nI tl), .ref ka, .int (nI z23), .ref kp, .int (nI pn), .ref kks, .ref kds, .ref ksp, .ref kkm, .ref kda])), (ksp, .inr (3, [.ref ln23, .int (nI 168), .int (nI 31), .int (nI 0)])), (ln23, .inl (g.2.1 2, 25, .inr (.inl u38)))] ++ pl) _ := hP
          have hD : va_D _ ([(h0, .inr (0, [.ref kt, .int (nI tl), .ref ka, .int (nI z23), .ref kp, .int (nI pn), .ref kks, .ref kds, .ref ksp, .ref kkm, .ref kda])), (ksp, .inr (3, [.ref ln23, .int (nI 168), .int (nI 31), .int (nI 0)])), (ln23, .inl (g.2.1 2, 25, .inr (.inl u38)))] ++ pl) := hD
          refine W.widen (k := 0) (n := 0) (by omega) (by omega) ?_
          refine lv_aload_n hx hb dK_hash_62 rfl (lv_at hl 0 rfl) ?_
          refine va_get (D := g.1) (ci := 0) (C := "LatticeKeys") (T := T_K) (N := 11) hx hb hts (wg_ft i_K) hown hK hP 0 rfl rfl 8 (by decide) (hts _ (wg_t kw_382)) (fun _ h9 => h9) rfl dK_hash_63 ?_
          refine lv_aload_n hx hb dK_hash_66 rfl (lv_at hl 0 rfl) ?_
          refine va_get (D := g.1) (ci := 0) (C := "LatticeKeys") (T := T_K) (N := 11) hx hb hts (wg_ft i_K) hown hK hP 0 rfl rfl 0 (by decide) (hts _ (wg_t kw_374)) (fun _ h9 => h9) rfl dK_hash_67 ?_
          refine lv_iconst (v := nI 0) hx hb dK_hash_70 (by decide) ?_
          refine lv_aload_n hx hb dK_hash_71 rfl (lv_at hl 0 rfl) ?_
          refine va_get (D := g.1) (ci := 0) (C := "LatticeKeys") (T := T_K) (N := 11) hx hb hts (wg_ft i_K) hown hK hP 0 rfl rfl 1 (by decide) (hts _ (wg_t kw_375)) (fun _ h9 => h9) rfl dK_hash_72 ?_
          refine mp_v (cx := [(ksp, .inr (3, [.ref ln23, .int (nI 168), .int (nI 31), .int (nI 0)])), (ln23, .inl (g.2.1 2, 25, .inr (.inl u38)))]) (wr := [(h0, .inr (0, [.ref kt, .int (nI tl), .ref ka, .int (nI z23), .ref kp, .int (nI pn), .ref kks, .ref kds, .ref ksp, .ref kkm, .ref kda]))]) hP hD hS hA [1, 2] [0] rfl rfl rfl (by decide) (va_runV (As := [.ref kt, .int (nI 0), .int (nI tl)]) (rest := []) F (t_SP_absorb l g _ T (ln23 :: (ksp :: [])) pl hO hU (clo_cons (clo_cons clo_nil k_ksp (by decide)) kl23 (by decide)) kt 16384 0 tl ksp ln23 168 0 (nI 31) u38 k_kt (by omega) (by omega) (by omega) (by omega)) (cwV 3 hts (wg_app (wg_c kw_1300 (wg_c kw_586 (wg_c kw_587 (wg_c kw_2 wg_n)))) kw_588) rfl rfl rfl (by decide +kernel) ⟨by decide, by decide⟩) (pp_V (en_ok g) (q0 := 1) hK hP hD hS hA hE [1, 2] rfl rfl rfl rfl) rfl rfl hl.1 rfl (lv_room (Nat.le_of_ble_eq_true rfl)) dK_hash_75 ⟨Nat.le_of_ble_eq_true rfl, Nat.le_of_ble_eq_true rfl⟩) (fun  u39 H locs hu30 hP hD hS => ?_)
          obtain ⟨u40, pl⟩ := u39
          obtain ⟨hq30, hO⟩ := hu30
          obtain ⟨k25, f28⟩ := u40
          have hP : va_P g.1 vcl ([(h0, .inr (0, [.ref kt, .int (nI tl), .ref ka, .int (nI z23), .ref kp, .int (nI pn), .ref kks, .ref kds, .ref ksp, .ref kkm, .ref kda])), (ksp, .inr (3, [.ref ln23, .int (nI 168), .int (nI 31), .int (nI k25)])), (ln23, .inl (g.2.1 2, 25, .inr (.inl f28)))] ++ pl) _ := hP
          have hD : va_D _ ([(h0, .inr (0, [.ref kt, .int (nI tl), .ref ka, .int (nI z23), .ref kp, .int (nI pn), .ref kks, .ref kds, .ref ksp, .ref kkm, .ref kda])), (ksp, .inr (3, [.ref ln23, .int (nI 168), .int (nI 31), .int (nI k25)])), (ln23, .inl (g.2.1 2, 25, .inr (.inl f28)))] ++ pl) := hD
          have hq30 : k25 < 168 := hq30
          refine W.widen (k := 0) (n := 0) (by omega) (by omega) ?_
          refine lv_aload_n hx hb dK_hash_78 rfl (lv_at hl 0 rfl) ?_
          refine va_get (D := g.1) (ci := 0) (C := "LatticeKeys") (T := T_K) (N := 11) hx hb hts (wg_ft i_K) hown hK hP 0 rfl rfl 8 (by decide) (hts _ (wg_t kw_382)) (fun _ h9 => h9) rfl dK_hash_79 ?_
          refine mp_v (cx := [(ksp, .inr (3, [.ref ln23, .int (nI 168), .int (nI 31), .int (nI k25)])), (ln23, .inl (g.2.1 2, 25, .inr (.inl f28)))]) (wr := [(h0, .inr (0, [.ref kt, .int (nI tl), .ref ka, .int (nI z23), .ref kp, .int (nI pn), .ref kks, .ref kds, .ref ksp, .ref kkm, .ref kda]))]) hP hD hS hA [1, 2] [0] rfl rfl rfl (by decide) (va_runV (As := []) (rest := []) F (t_SP_finish l g _ T (ln23 :: (ksp :: [])) pl hO hU  ksp ln23 168 k25 (nI 31) f28 (by omega) (by omega)) (cwV 0 hts (wg_app (wg_c kw_1301 (wg_c kw_611 (wg_c kw_612 (wg_c kw_2 wg_n)))) kw_613) rfl rfl rfl (by decide +kernel) ⟨by decide, by decide⟩) (pp_V (en_ok g) (q0 := 1) hK hP hD hS hA hE [1, 2] rfl rfl rfl rfl) rfl rfl hl.1 rfl (lv_room (Nat.le_of_ble_eq_true rfl)) dK_hash_82 ⟨Nat.le_of_ble_eq_true rfl, Nat.le_of_ble_eq_true rfl⟩) (fun  u41 H locs hu31 hP hD hS => ?_)
          obtain ⟨u42, pl⟩ := u41
          obtain ⟨hq31, hO⟩ := hu31
          have hP : va_P g.1 vcl ([(h0, .inr (0, [.ref kt, .int (nI tl), .ref ka, .int (nI z23), .ref kp, .int (nI pn), .ref kks, .ref kds, .ref ksp, .ref kkm, .ref kda])), (ksp, .inr (3, [.ref ln23, .int (nI 168), .int (nI 31), .int (nI 168)])), (ln23, .inl (g.2.1 2, 25, .inr (.inl u42)))] ++ pl) _ := hP
          have hD : va_D _ ([(h0, .inr (0, [.ref kt, .int (nI tl), .ref ka, .int (nI z23), .ref kp, .int (nI pn), .ref kks, .ref kds, .ref ksp, .ref kkm, .ref kda])), (ksp, .inr (3, [.ref ln23, .int (nI 168), .int (nI 31), .int (nI 168)])), (ln23, .inl (g.2.1 2, 25, .inr (.inl u42)))] ++ pl) := hD
          refine W.widen (k := 0) (n := 0) (by omega) (by omega) ?_
          refine lv_aload_n hx hb dK_hash_85 rfl (lv_at hl 0 rfl) ?_
          refine va_get (D := g.1) (ci := 0) (C := "LatticeKeys") (T := T_K) (N := 11) hx hb hts (wg_ft i_K) hown hK hP 0 rfl rfl 8 (by decide) (hts _ (wg_t kw_382)) (fun _ h9 => h9) rfl dK_hash_86 ?_
          refine lv_aload_n hx hb dK_hash_89 rfl (lv_at hl 0 rfl) ?_
          refine va_get (D := g.1) (ci := 0) (C := "LatticeKeys") (T := T_K) (N := 11) hx hb hts (wg_ft i_K) hown hK hP 0 rfl rfl 2 (by decide) (hts _ (wg_t kw_376)) (fun _ h9 => h9) rfl dK_hash_90 ?_
          refine lv_iconst (v := nI 0) hx hb dK_hash_93 (by decide) ?_
          refine lv_aload_n hx hb dK_hash_94 rfl (lv_at hl 0 rfl) ?_
          refine va_get (D := g.1) (ci := 0) (C := "LatticeKeys") (T := T_K) (N := 11) hx hb hts (wg_ft i_K) hown hK hP 0 rfl rfl 3 (by decide) (hts _ (wg_t kw_377)) (fun _ h9 => h9) rfl dK_hash_95 ?_
          refine mp_v (cx := [(ksp, .inr (3, [.ref ln23, .int (nI 168), .int (nI 31), .int (nI 168)])), (ln23, .inl (g.2.1 2, 25, .inr (.inl u42)))]) (wr := [(h0, .inr (0, [.ref kt, .int (nI tl), .ref ka, .int (nI z23), .ref kp, .int (nI pn), .ref kks, .ref kds, .ref ksp, .ref kkm, .ref kda]))]) hP hD hS hA [1, 2] [0] rfl rfl rfl (by decide) (va_runV (As := [.ref ka, .int (nI 0), .int (nI z23)]) (rest := []) F (t_SP_squeeze l g _ T (ln23 :: (ksp :: [])) pl hO hU (clo_cons (clo_cons clo_nil k_ksp (by decide)) kl23 (by decide)) ka 8192 0 z23 ksp ln23 168 168 (nI 31) u42 k_ka (by omega) (by omega) (by omega) (by omega)) (cwV 3 hts (wg_app (wg_c kw_1302 (wg_c kw_615 (wg_c kw_616 (wg_c kw_2 wg_n)))) kw_617) rfl rfl rfl (by decide +kernel) ⟨by decide, by decide⟩) (pp_V (en_ok g) (q0 := 1) hK hP hD hS hA hE [1, 2] rfl rfl rfl rfl) rfl rfl hl.1 rfl (lv_room (Nat.le_of_ble_eq_true rfl)) dK_hash_98 ⟨Nat.le_of_ble_eq_true rfl, Nat.le_of_ble_eq_true rfl⟩) (fun  u43 H locs hu32 hP hD hS => ?_)
          obtain ⟨u44, pl⟩ := u43
          obtain ⟨hq32, hO⟩ := hu32
          obtain ⟨k26, f29⟩ := u44
          have hP : va_P g.1 vcl ([(h0, .inr (0, [.ref kt, .int (nI tl), .ref ka, .int (nI z23), .ref kp, .int (nI pn), .ref kks, .ref kds, .ref ksp, .ref kkm, .ref kda])), (ksp, .inr (3, [.ref ln23, .int (nI 168), .int (nI 31), .int (nI k26)])), (ln23, .inl (g.2.1 2, 25, .inr (.inl f29)))] ++ pl) _ := hP
          have hD : va_D _ ([(h0, .inr (0, [.ref kt, .int (nI tl), .ref ka, .int (nI z23), .ref kp, .int (nI pn), .ref kks, .ref kds, .ref ksp, .ref kkm, .ref kda])), (ksp, .inr (3, [.ref ln23, .int (nI 168), .int (nI 31), .int (nI k26)])), (ln23, .inl (g.2.1 2, 25, .inr (.inl f29)))] ++ pl) := hD
          have hq32 : k26 ≤ 168 := hq32
          refine W.widen (k := 0) (n := 0) (by omega) (by omega) ?_
          refine lv_aload_n hx hb dK_hash_101 rfl (lv_at hl 0 rfl) ?_
          refine lv_iconst (v := nI 0) hx hb dK_hash_102 (by decide) ?_
          refine va_put (D := g.1) (ci := 0) (v := .int (nI 0)) (ty := .int) (C := "LatticeKeys") (T := T_K) (N := 11) hx hb hts (wg_ft i_K) ty_K k_K n_K hown hK hP hD hS 0 rfl rfl 1 (by decide) (hts _ (wg_t kw_375)) (fun _ h9 => h9) rfl (by decide +kernel) rfl rfl (Nat.le_of_ble_eq_true rfl) dK_hash_103 (fun H locs hP hD hS => ?_)
          have hP : va_P g.1 vcl ([(h0, .inr (0, [.ref kt, .int (nI 0), .ref ka, .int (nI z23), .ref kp, .int (nI pn), .ref kks, .ref kds, .ref ksp, .ref kkm, .ref kda])), (ksp, .inr (3, [.ref ln23, .int (nI 168), .int (nI 31), .int (nI k26)])), (ln23, .inl (g.2.1 2, 25, .inr (.inl f29)))] ++ pl) _ := hP
          have hD : va_D _ ([(h0, .inr (0, [.ref kt, .int (nI 0), .ref ka, .int (nI z23), .ref kp, .int (nI pn), .ref kks, .ref kds, .ref ksp, .ref kkm, .ref kda])), (ksp, .inr (3, [.ref ln23, .int (nI 168), .int (nI 31), .int (nI k26)])), (ln23, .inl (g.2.1 2, 25, .inr (.inl f29)))] ++ pl) := hD
          refine lv_aload_n hx hb dK_hash_106 rfl (lv_at hl 0 rfl) ?_
          refine va_get (D := g.1) (ci := 0) (C := "LatticeKeys") (T := T_K) (N := 11) hx hb hts (wg_ft i_K) hown hK hP 0 rfl rfl 3 (by decide) (hts _ (wg_t kw_377)) (fun _ h9 => h9) rfl dK_hash_107 ?_
          have hO := close1 (e := .inl (g.2.1 2, 25, .inr (.inl f29))) hO kl23 ⟨_, rfl⟩
          have hO := close1 (e := .inr (3, [.ref ln23, .int (nI 168), .int (nI 31), .int (nI k26)])) hO k_ksp ⟨_, _, _, _, rfl, kl23, by omega, by omega, by omega⟩
          have hO : okx g T [] ((ksp, .inr (3, [.ref ln23, .int (nI 168), .int (nI 31), .int (nI k26)])) :: (ln23, .inl (g.2.1 2, 25, .inr (.inl f29))) :: pl) := hO
          have hP : va_P g.1 vcl ([(h0, .inr (0, [.ref kt, .int (nI 0), .ref ka, .int (nI z23), .ref kp, .int (nI pn), .ref kks, .ref kds, .ref ksp, .ref kkm, .ref kda]))] ++ ((ksp, .inr (3, [.ref ln23, .int (nI 168), .int (nI 31), .int (nI k26)])) :: (ln23, .inl (g.2.1 2, 25, .inr (.inl f29))) :: pl)) _ := hP
          have hD : va_D _ ([(h0, .inr (0, [.ref kt, .int (nI 0), .ref ka, .int (nI z23), .ref kp, .int (nI pn), .ref kks, .ref kds, .ref ksp, .ref kkm, .ref kda]))] ++ ((ksp, .inr (3, [.ref ln23, .int (nI 168), .int (nI 31), .int (nI k26)])) :: (ln23, .inl (g.2.1 2, 25, .inr (.inl f29))) :: pl)) := hD
          generalize ((ksp, .inr (3, [.ref ln23, .int (nI 168), .int (nI 31), .int (nI k26)])) :: (ln23, .inl (g.2.1 2, 25, .inr (.inl f29))) :: pl) = pl at hO hP hD
          refine et_ret ?_
          exact mp_iret hx hb hr hlk hP hD hS ((T, 0, z23, pn), pl) ⟨⟨⟨(by show 0 ≤ 16384; omega), (by show z23 ≤ 8192; omega), (by show pn ≤ 8; omega), hXT, hU⟩, (by rw [hv2 (by omega)]; exact ⟨rfl, rfl⟩)⟩, hO⟩ [0] rfl rfl rfl (by omega) (by omega) dK_hash_110
        · exact et_throw (own := "LatticeKeys") (cls := "java/lang/IllegalArgumentException") (text := "no such hash or length") (names := ["java/lang/RuntimeException", "java/lang/Exception"]) (ik := 79) (is := 226) (ic := 83) hx hb htr ctr_IAE_0 ctr_IAE_1 ctr_IAE_2 ctr_IAE_5 hown (by decide) (by decide) (hts _ (wg_t kw_501)) (hts _ (wg_t kw_18)) (hX.2.2.2.2.2.1 19 ("LatticeKeys", 226, "no such hash or length") rfl) (hat_IAE hts hX.2) hS.1 (hl.1.trans hml.symm) dK_hash_20 dK_hash_23 dK_hash_24 dK_hash_26 dK_hash_29 htab (Nat.le_of_ble_eq_true rfl) (Nat.le_of_ble_eq_true rfl) (Nat.le_of_ble_eq_true rfl) (Nat.le_of_ble_eq_true rfl) hlk (Nat.le_of_ble_eq_true rfl) (Nat.le_of_ble_eq_true rfl) List.mem_cons_self hS.2.2 (thr_st hX.2) (fun t hz9 hk9 => ⟨⟨((T, tl, al, pn), pl), ⟨⟨⟨(by show tl ≤ 16384; omega), (by show al ≤ 8192; omega), (by show pn ≤ 8; omega), hXT, hU⟩, (by rw [hval_bad (Or.inr (Or.inr (Or.inr (Int32.not_le.mp h35))))])⟩, hO⟩, lc_P hP hk9, hD⟩, (lc_S hS hz9 hk9).F rfl⟩)
    | 3, _ =>
      refine lv_iload_n hx hb dK_hash_0 rfl (lv_at hl 1 rfl) ?_
      refine lv_if_lt (tgt := 20) hx hb dK_hash_1 (by decide) (fun h38 => absurd h38 (by decide)) (fun h38 => ?_)
      refine lv_iload_n hx hb dK_hash_4 rfl (lv_at hl 1 rfl) ?_
      refine lv_iconst (v := nI 3) hx hb dK_hash_5 (by decide) ?_
      refine mi_gt (tgt := 20) hx hb dK_hash_6 (by decide) (by omega) (by omega) (fun h39 => absurd h39 (by omega)) (fun h39 => ?_)
      refine lv_iload_n hx hb dK_hash_9 rfl (lv_at hl 2 rfl) ?_
      refine lv_if_lt (tgt := 20) hx hb dK_hash_10 (by decide) (fun h40 => ?_) (fun h40 => ?_)
      · exact et_throw (own := "LatticeKeys") (cls := "java/lang/IllegalArgumentException") (text := "no such hash or length") (names := ["java/lang/RuntimeException", "java/lang/Exception"]) (ik := 79) (is := 226) (ic := 83) hx hb htr ctr_IAE_0 ctr_IAE_1 ctr_IAE_2 ctr_IAE_5 hown (by decide) (by decide) (hts _ (wg_t kw_501)) (hts _ (wg_t kw_18)) (hX.2.2.2.2.2.1 19 ("LatticeKeys", 226, "no such hash or length") rfl) (hat_IAE hts hX.2) hS.1 (hl.1.trans hml.symm) dK_hash_20 dK_hash_23 dK_hash_24 dK_hash_26 dK_hash_29 htab (Nat.le_of_ble_eq_true rfl) (Nat.le_of_ble_eq_true rfl) (Nat.le_of_ble_eq_true rfl) (Nat.le_of_ble_eq_true rfl) hlk (Nat.le_of_ble_eq_true rfl) (Nat.le_of_ble_eq_true rfl) List.mem_cons_self hS.2.2 (thr_st hX.2) (fun t hz9 hk9 => ⟨⟨((T, tl, al, pn), pl), ⟨⟨⟨(by show tl ≤ 16384; omega), (by show al ≤ 8192; omega), (by show pn ≤ 8; omega), hXT, hU⟩, (by rw [hval_bad (Or.inr (Or.inr (Or.inl h40)))])⟩, hO⟩, lc_P hP hk9, hD⟩, (lc_S hS hz9 hk9).F rfl⟩)
      · refine lv_iload_n hx hb dK_hash_13 rfl (lv_at hl 2 rfl) ?_
        refine lv_sipush (v := nI 8192) hx hb dK_hash_14 (by decide) ?_
        refine lv_icmp_le (tgt := 30) hx hb dK_hash_17 (by decide) (fun h41 => ?_) (fun h41 => ?_)
        · obtain ⟨z24, hz24, rfl⟩ := i32_le h40 (by omega) h41
          refine lv_aload_n hx hb dK_hash_30 rfl (lv_at hl 0 rfl) ?_
          refine lv_iload_n hx hb dK_hash_31 rfl (lv_at hl 1 rfl) ?_
          refine lv_if_ne (tgt := 40) hx hb dK_hash_32 (by decide) (fun h42 => ?_) (fun h42 => absurd h42 (by decide))
          refine lv_iload_n hx hb dK_hash_40 rfl (lv_at hl 1 rfl) ?_
          refine lv_iconst (v := nI 1) hx hb dK_hash_41 (by decide) ?_
          refine mi_ne (tgt := 50) hx hb dK_hash_42 (by decide) (by omega) (by omega) (fun h43 => ?_) (fun h43 => absurd h43 (by omega))
          refine lv_iload_n hx hb dK_hash_50 rfl (lv_at hl 2 rfl) ?_
          refine va_put (D := g.1) (ci := 0) (v := .int (nI z24)) (ty := .int) (C := "LatticeKeys") (T := T_K) (N := 11) hx hb hts (wg_ft i_K) ty_K k_K n_K hown hK hP hD hS 0 rfl rfl 3 (by decide) (hts _ (wg_t kw_377)) (fun _ h9 => h9) rfl (by decide +kernel) rfl rfl (Nat.le_of_ble_eq_true rfl) dK_hash_51 (fun H locs hP hD hS => ?_)
          have hP : va_P g.1 vcl ([(h0, .inr (0, [.ref kt, .int (nI tl), .ref ka, .int (nI z24), .ref kp, .int (nI pn), .ref kks, .ref kds, .ref ksp, .ref kkm, .ref kda]))] ++ pl) _ := hP
          have hD : va_D _ ([(h0, .inr (0, [.ref kt, .int (nI tl), .ref ka, .int (nI z24), .ref kp, .int (nI pn), .ref kks, .ref kds, .ref ksp, .ref kkm, .ref kda]))] ++ pl) := hD
          refine lv_aload_n hx hb dK_hash_54 rfl (lv_at hl 0 rfl) ?_
          refine va_get (D := g.1) (ci := 0) (C := "LatticeKeys") (T := T_K) (N := 11) hx hb hts (wg_ft i_K) hown hK hP 0 rfl rfl 8 (by decide) (hts _ (wg_t kw_382)) (fun _ h9 => h9) rfl dK_hash_55 ?_
          refine lv_iload_n hx hb dK_hash_58 rfl (lv_at hl 1 rfl) ?_
          obtain ⟨e27, pl, hP, hD, hk27, hO⟩ := open1 hP hD hO k_ksp (nxg clo_nil k_ksp rfl)
          obtain ⟨ln24, rt24, ps24, x24, rfl, kl24, hr30, hr31, hr32⟩ := hk27
          have kl24 : T ln24 = some (19, 0) := kl24
          obtain ⟨e28, pl, hP, hD, hk28, hO⟩ := open1 hP hD hO kl24 (nmc (knd_ne kl24 k_ksp (by decide)) (nxg clo_nil kl24 rfl))
          obtain ⟨f30, rfl⟩ := hk28
          have hP : va_P g.1 vcl ([(h0, .inr (0, [.ref kt, .int (nI tl), .ref ka, .int (nI z24), .ref kp, .int (nI pn), .ref kks, .ref kds, .ref ksp, .ref kkm, .ref kda])), (ksp, .inr (3, [.ref ln24, .int (nI rt24), .int x24, .int (nI ps24)])), (ln24, .inl (g.2.1 2, 25, .inr (.inl f30)))] ++ pl) _ := hP
          have hD : va_D _ ([(h0, .inr (0, [.ref kt, .int (nI tl), .ref ka, .int (nI z24), .ref kp, .int (nI pn), .ref kks, .ref kds, .ref ksp, .ref kkm, .ref kda])), (ksp, .inr (3, [.ref ln24, .int (nI rt24), .int x24, .int (nI ps24)])), (ln24, .inl (g.2.1 2, 25, .inr (.inl f30)))] ++ pl) := hD
          refine mp_v (cx := [(ksp, .inr (3, [.ref ln24, .int (nI rt24), .int x24, .int (nI ps24)])), (ln24, .inl (g.2.1 2, 25, .inr (.inl f30)))]) (wr := [(h0, .inr (0, [.ref kt, .int (nI tl), .ref ka, .int (nI z24), .ref kp, .int (nI pn), .ref kks, .ref kds, .ref ksp, .ref kkm, .ref kda]))]) hP hD hS hA [1, 2] [0] rfl rfl rfl (by decide) (va_runV (As := [.int (nI 3)]) (rest := []) F (t_SP_start_3 l g _ T (ln24 :: (ksp :: [])) pl hO hU  ksp ln24 rt24 ps24 x24 f30) (cwV 1 hts (wg_app (wg_c kw_1299 (wg_c kw_579 (wg_c kw_580 (wg_c kw_2 wg_n)))) kw_581) rfl rfl rfl (by decide +kernel) ⟨by decide, by decide⟩) (pp_V (en_ok g) (q0 := 1) hK hP hD hS hA hE [1, 2] rfl rfl rfl rfl) rfl rfl hl.1 rfl (lv_room (Nat.le_of_ble_eq_true rfl)) dK_hash_59 ⟨Nat.le_of_ble_eq_true rfl, Nat.le_of_ble_eq_true rfl⟩) (fun  u45 H locs hu33 hP hD hS => ?_)
          obtain ⟨u46, pl⟩ := u45
          obtain ⟨hq33, hO⟩ := hu33
          have hP : va_P g.1 vcl ([(h0, .inr (0, [.ref kt, .int (nI tl), .ref ka, .int (nI z24), .ref kp, .int (nI pn), .ref kks, .ref kds, .ref ksp, .ref kkm, .ref kda])), (ksp, .inr (3, [.ref ln24, .int (nI 136), .int (nI 31), .int (nI 0)])), (ln24, .inl (g.2.1 2, 25, .inr (.inl u46)))] ++ pl) _ := hP
          have hD : va_D _ ([(h0, .inr (0, [.ref kt, .int (nI tl), .ref ka, .int (nI z24), .ref kp, .int (nI pn), .ref kks, .ref kds, .ref ksp, .ref kkm, .ref kda])), (ksp, .inr (3, [.ref ln24, .int (nI 136), .int (nI 31), .int (nI 0)])), (ln24, .inl (g.2.1 2, 25, .inr (.inl u46)))] ++ pl) := hD
          refine W.widen (k := 0) (n := 0) (by omega) (by omega) ?_
          refine lv_aload_n hx hb dK_hash_62 rfl (lv_at hl 0 rfl) ?_
          refine va_get (D := g.1) (ci := 0) (C := "LatticeKeys") (T := T_K) (N := 11) hx hb hts (wg_ft i_K) hown hK hP 0 rfl rfl 8 (by decide) (hts _ (wg_t kw_382)) (fun _ h9 => h9) rfl dK_hash_63 ?_
          refine lv_aload_n hx hb dK_hash_66 rfl (lv_at hl 0 rfl) ?_
          refine va_get (D := g.1) (ci := 0) (C := "LatticeKeys") (T := T_K) (N := 11) hx hb hts (wg_ft i_K) hown hK hP 0 rfl rfl 0 (by decide) (hts _ (wg_t kw_374)) (fun _ h9 => h9) rfl dK_hash_67 ?_
          refine lv_iconst (v := nI 0) hx hb dK_hash_70 (by decide) ?_
          refine lv_aload_n hx hb dK_hash_71 rfl (lv_at hl 0 rfl) ?_
          refine va_get (D := g.1) (ci := 0) (C := "LatticeKeys") (T := T_K) (N := 11) hx hb hts (wg_ft i_K) hown hK hP 0 rfl rfl 1 (by decide) (hts _ (wg_t kw_375)) (fun _ h9 => h9) rfl dK_hash_72 ?_
          refine mp_v (cx := [(ksp, .inr (3, [.ref ln24, .int (nI 136), .int (nI 31), .int (nI 0)])), (ln24, .inl (g.2.1 2, 25, .inr (.inl u46)))]) (wr := [(h0, .inr (0, [.ref kt, .int (nI tl), .ref ka, .int (nI z24), .ref kp, .int (nI pn), .ref kks, .ref kds, .ref ksp, .ref kkm, .ref kda]))]) hP hD hS hA [1, 2] [0] rfl rfl rfl (by decide) (va_runV (As := [.ref kt, .int (nI 0), .int (nI tl)]) (rest := []) F (t_SP_absorb l g _ T (ln24 :: (ksp :: [])) pl hO hU (clo_cons (clo_cons clo_nil k_ksp (by decide)) kl24 (by decide)) kt 16384 0 tl ksp ln24 136 0 (nI 31) u46 k_kt (by omega) (by omega) (by omega) (by omega)) (cwV 3 hts (wg_app (wg_c kw_1300 (wg_c kw_586 (wg_c kw_587 (wg_c kw_2 wg_n)))) kw_588) rfl rfl rfl (by decide +kernel) ⟨by decide, by decide⟩) (pp_V (en_ok g) (q0 := 1) hK hP hD hS hA hE [1, 2] rfl rfl rfl rfl) rfl rfl hl.1 rfl (lv_room (Nat.le_of_ble_eq_true rfl)) dK_hash_75 ⟨Nat.le_of_ble_eq_true rfl, Nat.le_of_ble_eq_true rfl⟩) (fun  u47 H locs hu34 hP hD hS => ?_)
          obtain ⟨u48, pl⟩ := u47
          obtain ⟨hq34, hO⟩ := hu34
          obtain ⟨k27, f31⟩ := u48
          have hP : va_P g.1 vcl ([(h0, .inr (0, [.ref kt, .int (nI tl), .ref ka, .int (nI z24), .ref kp, .int (nI pn), .ref kks, .ref kds, .ref ksp, .ref kkm, .ref kda])), (ksp, .inr (3, [.ref ln24, .int (nI 136), .int (nI 31), .int (nI k27)])), (ln24, .inl (g.2.1 2, 25, .inr (.inl f31)))] ++ pl) _ := hP
          have hD : va_D _ ([(h0, .inr (0, [.ref kt, .int (nI tl), .ref ka, .int (nI z24), .ref kp, .int (nI pn), .ref kks, .ref kds, .ref ksp, .ref kkm, .ref kda])), (ksp, .inr (3, [.ref ln24, .int (nI 136), .int (nI 31), .int (nI k27)])), (ln24, .inl (g.2.1 2, 25, .inr (.inl f31)))] ++ pl) := hD
          have hq34 : k27 < 136 := hq34
          refine W.widen (k := 0) (n := 0) (by omega) (by omega) ?_
          refine lv_aload_n hx hb dK_hash_78 rfl (lv_at hl 0 rfl) ?_
          refine va_get (D := g.1) (ci := 0) (C := "LatticeKeys") (T := T_K) (N := 11) hx hb hts (wg_ft i_K) hown hK hP 0 rfl rfl 8 (by decide) (hts _ (wg_t kw_382)) (fun _ h9 => h9) rfl dK_hash_79 ?_
          refine mp_v (cx := [(ksp, .inr (3, [.ref ln24, .int (nI 136), .int (nI 31), .int (nI k27)])), (ln24, .inl (g.2.1 2, 25, .inr (.inl f31)))]) (wr := [(h0, .inr (0, [.ref kt, .int (nI tl), .ref ka, .int (nI z24), .ref kp, .int (nI pn), .ref kks, .ref kds, .ref ksp, .ref kkm, .ref kda]))]) hP hD hS hA [1, 2] [0] rfl rfl rfl (by decide) (va_runV (As := []) (rest := []) F (t_SP_finish l g _ T (ln24 :: (ksp :: [])) pl hO hU  ksp ln24 136 k27 (nI 31) f31 (by omega) (by omega)) (cwV 0 hts (wg_app (wg_c kw_1301 (wg_c kw_611 (wg_c kw_612 (wg_c kw_2 wg_n)))) kw_613) rfl rfl rfl (by decide +kernel) ⟨by decide, by decide⟩) (pp_V (en_ok g) (q0 := 1) hK hP hD hS hA hE [1, 2] rfl rfl rfl rfl) rfl rfl hl.1 rfl (lv_room (Nat.le_of_ble_eq_true rfl)) dK_hash_82 ⟨Nat.le_of_ble_eq_true rfl, Nat.le_of_ble_eq_true rfl⟩) (fun  u49 H locs hu35 hP hD hS => ?_)
          obtain ⟨u50, pl⟩ := u49
          obtain ⟨hq35, hO⟩ := hu35
          have hP : va_P g.1 vcl ([(h0, .inr (0, [.ref kt, .int (nI tl), .ref ka, .int (nI z24), .ref kp, .int (nI pn), .ref kks, .ref kds, .ref ksp, .ref kkm, .ref kda])), (ksp, .inr (3, [.ref ln24, .int (nI 136), .int (nI 31), .int (nI 136)])), (ln24, .inl (g.2.1 2, 25, .inr (.inl u50)))] ++ pl) _ := hP
          have hD : va_D _ ([(h0, .inr (0, [.ref kt, .int (nI tl), .ref ka, .int (nI z24), .ref kp, .int (nI pn), .ref kks, .ref kds, .ref ksp, .ref kkm, .ref kda])), (ksp, .inr (3, [.ref ln24, .int (nI 136), .int (nI 31), .int (nI 136)])), (ln24, .inl (g.2.1 2, 25, .inr (.inl u50)))] ++ pl) := hD
          refine W.widen (k := 0) (n := 0) (by omega) (by omega) ?_
          refine lv_aload_n hx hb dK_hash_85 rfl (lv_at hl 0 rfl) ?_
          refine va_get (D := g.1) (ci := 0) (C := "LatticeKeys") (T := T_K) (N := 11) hx hb hts (wg_ft i_K) hown hK hP 0 rfl rfl 8 (by decide) (hts _ (wg_t kw_382)) (fun _ h9 => h9) rfl dK_hash_86 ?_
          refine lv_aload_n hx hb dK_hash_89 rfl (lv_at hl 0 rfl) ?_
          refine va_get (D := g.1) (ci := 0) (C := "LatticeKeys") (T := T_K) (N := 11) hx hb hts (wg_ft i_K) hown hK hP 0 rfl rfl 2 (by decide) (hts _ (wg_t kw_376)) (fun _ h9 => h9) rfl dK_hash_90 ?_
          refine lv_iconst (v := nI 0) hx hb dK_hash_93 (by decide) ?_
          refine lv_aload_n hx hb dK_hash_94 rfl (lv_at hl 0 rfl) ?_
          refine va_get (D := g.1) (ci := 0) (C := "LatticeKeys") (T := T_K) (N := 11) hx hb hts (wg_ft i_K) hown hK hP 0 rfl rfl 3 (by decide) (hts _ (wg_t kw_377)) (fun _ h9 => h9) rfl dK_hash_95 ?_
          refine mp_v (cx := [(ksp, .inr (3, [.ref ln24, .int (nI 136), .int (nI 31), .int (nI 136)])), (ln24, .inl (g.2.1 2, 25, .inr (.inl u50)))]) (wr := [(h0, .inr (0, [.ref kt, .int (nI tl), .ref ka, .int (nI z24), .ref kp, .int (nI pn), .ref kks, .ref kds, .ref ksp, .ref kkm, .ref kda]))]) hP hD hS hA [1, 2] [0] rfl rfl rfl (by decide) (va_runV (As := [.ref ka, .int (nI 0), .int (nI z24)]) (rest := []) F (t_SP_squeeze l g _ T (ln24 :: (ksp :: [])) pl hO hU (clo_cons (clo_cons clo_nil k_ksp (by decide)) kl24 (by decide)) ka 8192 0 z24 ksp ln24 136 136 (nI 31) u50 k_ka (by omega) (by omega) (by omega) (by omega)) (cwV 3 hts (wg_app (wg_c kw_1302 (wg_c kw_615 (wg_c kw_616 (wg_c kw_2 wg_n)))) kw_617) rfl rfl rfl (by decide +kernel) ⟨by decide, by decide⟩) (pp_V (en_ok g) (q0 := 1) hK hP hD hS hA hE [1, 2] rfl rfl rfl rfl) rfl rfl hl.1 rfl (lv_room (Nat.le_of_ble_eq_true rfl)) dK_hash_98 ⟨Nat.le_of_ble_eq_true rfl, Nat.le_of_ble_eq_true rfl⟩) (fun  u51 H locs hu36 hP hD hS => ?_)
          obtain ⟨u52, pl⟩ := u51
          obtain ⟨hq36, hO⟩ := hu36
          obtain ⟨k28, f32⟩ := u52
          have hP : va_P g.1 vcl ([(h0, .inr (0, [.ref kt, .int (nI tl), .ref ka, .int (nI z24), .ref kp, .int (nI pn), .ref kks, .ref kds, .ref ksp, .ref kkm, .ref kda])), (ksp, .inr (3, [.ref ln24, .int (nI 136), .int (nI 31), .int (nI k28)])), (ln24, .inl (g.2.1 2, 25, .inr (.inl f32)))] ++ pl) _ := hP
          have hD : va_D _ ([(h0, .inr (0, [.ref kt, .int (nI tl), .ref ka, .int (nI z24), .ref kp, .int (nI pn), .ref kks, .ref kds, .ref ksp, .ref kkm, .ref kda])), (ksp, .inr (3, [.ref ln24, .int (nI 136), .int (nI 31), .int (nI k28)])), (ln24, .inl (g.2.1 2, 25, .inr (.inl f32)))] ++ pl) := hD
          have hq36 : k28 ≤ 136 := hq36
          refine W.widen (k := 0) (n := 0) (by omega) (by omega) ?_
          refine lv_aload_n hx hb dK_hash_101 rfl (lv_at hl 0 rfl) ?_
          refine lv_iconst (v := nI 0) hx hb dK_hash_102 (by decide) ?_
          refine va_put (D := g.1) (ci := 0) (v := .int (nI 0)) (ty := .int) (C := "LatticeKeys") (T := T_K) (N := 11) hx hb hts (wg_ft i_K) ty_K k_K n_K hown hK hP hD hS 0 rfl rfl 1 (by decide) (hts _ (wg_t kw_375)) (fun _ h9 => h9) rfl (by decide +kernel) rfl rfl (Nat.le_of_ble_eq_true rfl) dK_hash_103 (fun H locs hP hD hS => ?_)
          have hP : va_P g.1 vcl ([(h0, .inr (0, [.ref kt, .int (nI 0), .ref ka, .int (nI z24), .ref kp, .int (nI pn), .ref kks, .ref kds, .ref ksp, .ref kkm, .ref kda])), (ksp, .inr (3, [.ref ln24, .int (nI 136), .int (nI 31), .int (nI k28)])), (ln24, .inl (g.2.1 2, 25, .inr (.inl f32)))] ++ pl) _ := hP
          have hD : va_D _ ([(h0, .inr (0, [.ref kt, .int (nI 0), .ref ka, .int (nI z24), .ref kp, .int (nI pn), .ref kks, .ref kds, .ref ksp, .ref kkm, .ref kda])), (ksp, .inr (3, [.ref ln24, .int (nI 136), .int (nI 31), .int (nI k28)])), (ln24, .inl (g.2.1 2, 25, .inr (.inl f32)))] ++ pl) := hD
          refine lv_aload_n hx hb dK_hash_106 rfl (lv_at hl 0 rfl) ?_
          refine va_get (D := g.1) (ci := 0) (C := "LatticeKeys") (T := T_K) (N := 11) hx hb hts (wg_ft i_K) hown hK hP 0 rfl rfl 3 (by decide) (hts _ (wg_t kw_377)) (fun _ h9 => h9) rfl dK_hash_107 ?_
          have hO := close1 (e := .inl (g.2.1 2, 25, .inr (.inl f32))) hO kl24 ⟨_, rfl⟩
          have hO := close1 (e := .inr (3, [.ref ln24, .int (nI 136), .int (nI 31), .int (nI k28)])) hO k_ksp ⟨_, _, _, _, rfl, kl24, by omega, by omega, by omega⟩
          have hO : okx g T [] ((ksp, .inr (3, [.ref ln24, .int (nI 136), .int (nI 31), .int (nI k28)])) :: (ln24, .inl (g.2.1 2, 25, .inr (.inl f32))) :: pl) := hO
          have hP : va_P g.1 vcl ([(h0, .inr (0, [.ref kt, .int (nI 0), .ref ka, .int (nI z24), .ref kp, .int (nI pn), .ref kks, .ref kds, .ref ksp, .ref kkm, .ref kda]))] ++ ((ksp, .inr (3, [.ref ln24, .int (nI 136), .int (nI 31), .int (nI k28)])) :: (ln24, .inl (g.2.1 2, 25, .inr (.inl f32))) :: pl)) _ := hP
          have hD : va_D _ ([(h0, .inr (0, [.ref kt, .int (nI 0), .ref ka, .int (nI z24), .ref kp, .int (nI pn), .ref kks, .ref kds, .ref ksp, .ref kkm, .ref kda]))] ++ ((ksp, .inr (3, [.ref ln24, .int (nI 136), .int (nI 31), .int (nI k28)])) :: (ln24, .inl (g.2.1 2, 25, .inr (.inl f32))) :: pl)) := hD
          generalize ((ksp, .inr (3, [.ref ln24, .int (nI 136), .int (nI 31), .int (nI k28)])) :: (ln24, .inl (g.2.1 2, 25, .inr (.inl f32))) :: pl) = pl at hO hP hD
          refine et_ret ?_
          exact mp_iret hx hb hr hlk hP hD hS ((T, 0, z24, pn), pl) ⟨⟨⟨(by show 0 ≤ 16384; omega), (by show z24 ≤ 8192; omega), (by show pn ≤ 8; omega), hXT, hU⟩, (by rw [hv3 (by omega)]; exact ⟨rfl, rfl⟩)⟩, hO⟩ [0] rfl rfl rfl (by omega) (by omega) dK_hash_110
        · exact et_throw (own := "LatticeKeys") (cls := "java/lang/IllegalArgumentException") (text := "no such hash or length") (names := ["java/lang/RuntimeException", "java/lang/Exception"]) (ik := 79) (is := 226) (ic := 83) hx hb htr ctr_IAE_0 ctr_IAE_1 ctr_IAE_2 ctr_IAE_5 hown (by decide) (by decide) (hts _ (wg_t kw_501)) (hts _ (wg_t kw_18)) (hX.2.2.2.2.2.1 19 ("LatticeKeys", 226, "no such hash or length") rfl) (hat_IAE hts hX.2) hS.1 (hl.1.trans hml.symm) dK_hash_20 dK_hash_23 dK_hash_24 dK_hash_26 dK_hash_29 htab (Nat.le_of_ble_eq_true rfl) (Nat.le_of_ble_eq_true rfl) (Nat.le_of_ble_eq_true rfl) (Nat.le_of_ble_eq_true rfl) hlk (Nat.le_of_ble_eq_true rfl) (Nat.le_of_ble_eq_true rfl) List.mem_cons_self hS.2.2 (thr_st hX.2) (fun t hz9 hk9 => ⟨⟨((T, tl, al, pn), pl), ⟨⟨⟨(by show tl ≤ 16384; omega), (by show al ≤ 8192; omega), (by show pn ≤ 8; omega), hXT, hU⟩, (by rw [hval_bad (Or.inr (Or.inr (Or.inr (Int32.not_le.mp h41))))])⟩, hO⟩, lc_P hP hk9, hD⟩, (lc_S hS hz9 hk9).F rfl⟩)
    | _ + 4, h9 => exact absurd h9 (by omega)
  · have hbad := hb9
    refine lv_iload_n hx hb dK_hash_0 rfl (lv_at hl 1 rfl) ?_
    refine lv_if_lt (tgt := 20) hx hb dK_hash_1 (by decide) (fun h44 => ?_) (fun h44 => ?_)
    · exact et_throw (own := "LatticeKeys") (cls := "java/lang/IllegalArgumentException") (text := "no such hash or length") (names := ["java/lang/RuntimeException", "java/lang/Exception"]) (ik := 79) (is := 226) (ic := 83) hx hb htr ctr_IAE_0 ctr_IAE_1 ctr_IAE_2 ctr_IAE_5 hown (by decide) (by decide) (hts _ (wg_t kw_501)) (hts _ (wg_t kw_18)) (hX.2.2.2.2.2.1 19 ("LatticeKeys", 226, "no such hash or length") rfl) (hat_IAE hts hX.2) hS.1 (hl.1.trans hml.symm) dK_hash_20 dK_hash_23 dK_hash_24 dK_hash_26 dK_hash_29 htab (Nat.le_of_ble_eq_true rfl) (Nat.le_of_ble_eq_true rfl) (Nat.le_of_ble_eq_true rfl) (Nat.le_of_ble_eq_true rfl) hlk (Nat.le_of_ble_eq_true rfl) (Nat.le_of_ble_eq_true rfl) List.mem_cons_self hS.2.2 (thr_st hX.2) (fun t hz9 hk9 => ⟨⟨((T, tl, al, pn), pl), ⟨⟨⟨(by show tl ≤ 16384; omega), (by show al ≤ 8192; omega), (by show pn ≤ 8; omega), hXT, hU⟩, (by rw [hval_bad (Or.inl h44)])⟩, hO⟩, lc_P hP hk9, hD⟩, (lc_S hS hz9 hk9).F rfl⟩)
    · refine lv_iload_n hx hb dK_hash_4 rfl (lv_at hl 1 rfl) ?_
      refine lv_iconst (v := nI 3) hx hb dK_hash_5 (by decide) ?_
      refine lv_icmp_gt (tgt := 20) hx hb dK_hash_6 (by decide) (fun h45 => ?_) (fun h45 => absurd (hbad.resolve_left h44) h45)
      exact et_throw (own := "LatticeKeys") (cls := "java/lang/IllegalArgumentException") (text := "no such hash or length") (names := ["java/lang/RuntimeException", "java/lang/Exception"]) (ik := 79) (is := 226) (ic := 83) hx hb htr ctr_IAE_0 ctr_IAE_1 ctr_IAE_2 ctr_IAE_5 hown (by decide) (by decide) (hts _ (wg_t kw_501)) (hts _ (wg_t kw_18)) (hX.2.2.2.2.2.1 19 ("LatticeKeys", 226, "no such hash or length") rfl) (hat_IAE hts hX.2) hS.1 (hl.1.trans hml.symm) dK_hash_20 dK_hash_23 dK_hash_24 dK_hash_26 dK_hash_29 htab (Nat.le_of_ble_eq_true rfl) (Nat.le_of_ble_eq_true rfl) (Nat.le_of_ble_eq_true rfl) (Nat.le_of_ble_eq_true rfl) hlk (Nat.le_of_ble_eq_true rfl) (Nat.le_of_ble_eq_true rfl) List.mem_cons_self hS.2.2 (thr_st hX.2) (fun t hz9 hk9 => ⟨⟨((T, tl, al, pn), pl), ⟨⟨⟨(by show tl ≤ 16384; omega), (by show al ≤ 8192; omega), (by show pn ≤ 8; omega), hXT, hU⟩, (by rw [hval_bad (Or.inr (Or.inl h45))])⟩, hO⟩, lc_P hP hk9, hD⟩, (lc_S hS hz9 hk9).F rfl⟩)
set_option maxHeartbeats 4000000 in
set_option maxRecDepth 100000 in
theorem e_K_result (l : Launch) (htr : l.stackTraces = false) (g : Gd) (sz : Nat) (T : Ty) (pl : va_W) (hO : okx g T [] pl) (hU : uni T) (v : Int32) (h0 kt ka kp kks kds ksp kkm kda tl al pn : Nat) (k_kt : T kt = some (1, 16384)) (k_ka : T ka = some (1, 8192)) (k_kp : T kp = some (6, 0)) (k_kks : T kks = some (50, 0)) (k_kds : T kds = some (51, 0)) (k_ksp : T ksp = some (10, 0)) (k_kkm : T kkm = some (13, 0)) (k_kda : T kda = some (15, 0)) (hb : tl ≤ 16384 ∧ al ≤ 8192 ∧ pn ≤ 8)  : etMet l y_K_result w_K_result ({ frames := 6, cells := 1, slots := 6, locals := 90 } : Room) (va_Pc [.ref h0, .int v] (pr (ex g) g.1 vcl sz ([(h0, .inr (0, [.ref kt, .int (nI tl), .ref ka, .int (nI al), .ref kp, .int (nI pn), .ref kks, .ref kds, .ref ksp, .ref kkm, .ref kda]))] ++ pl))) ["java/lang/IndexOutOfBoundsException"] (va_Qi (fun (r : Int32) (u : (Ty × Nat × Nat × Nat) × va_W) => ((u.1.2.1 ≤ 16384 ∧ u.1.2.2.1 ≤ 8192 ∧ u.1.2.2.2 ≤ 8 ∧ ext T u.1.1 ∧ uni u.1.1) ∧ (True)) ∧ okx g u.1.1 [] u.2) (po g.1 vcl (va_A ([(h0, .inr (0, [.ref kt, .int (nI tl), .ref ka, .int (nI al), .ref kp, .int (nI pn), .ref kks, .ref kds, .ref ksp, .ref kkm, .ref kda]))] ++ pl) sz) (fun (u : (Ty × Nat × Nat × Nat) × va_W) => [(h0, .inr (0, [.ref kt, .int (nI (u.1.2.1)), .ref ka, .int (nI (u.1.2.2.1)), .ref kp, .int (nI (u.1.2.2.2)), .ref kks, .ref kds, .ref ksp, .ref kkm, .ref kda]))] ++ u.2)) (va_A ([(h0, .inr (0, [.ref kt, .int (nI tl), .ref ka, .int (nI al), .ref kp, .int (nI pn), .ref kks, .ref kds, .ref ksp, .ref kkm, .ref kda]))] ++ pl) sz)) (xtP (fun (u : (Ty × Nat × Nat × Nat) × va_W) => ((u.1.2.1 ≤ 16384 ∧ u.1.2.2.1 ≤ 8192 ∧ u.1.2.2.2 ≤ 8 ∧ ext T u.1.1 ∧ uni u.1.1) ∧ (True)) ∧ okx g u.1.1 [] u.2) (po g.1 vcl (va_A ([(h0, .inr (0, [.ref kt, .int (nI tl), .ref ka, .int (nI al), .ref kp, .int (nI pn), .ref kks, .ref kds, .ref ksp, .ref kkm, .ref kda]))] ++ pl) sz) (fun (u : (Ty × Nat × Nat × Nat) × va_W) => [(h0, .inr (0, [.ref kt, .int (nI (u.1.2.1)), .ref ka, .int (nI (u.1.2.2.1)), .ref kp, .int (nI (u.1.2.2.2)), .ref kks, .ref kds, .ref ksp, .ref kkm, .ref kda]))] ++ u.2)) (va_A ([(h0, .inr (0, [.ref kt, .int (nI tl), .ref ka, .int (nI al), .ref kp, .int (nI pn), .ref kks, .ref kds, .ref ksp, .ref kkm, .ref kda]))] ++ pl) sz)) 1 6 (va_A ([(h0, .inr (0, [.ref kt, .int (nI tl), .ref ka, .int (nI al), .ref kp, .int (nI pn), .ref kks, .ref kds, .ref ksp, .ref kkm, .ref kda]))] ++ pl) sz) := by
  refine et_entry (cc := c_K_result) (maxL := 2) (ret := (some .int)) (by decide) rfl (Nat.le_of_ble_eq_true rfl) ?_
  intro p e s m args below meth c ls F hr hlk htab hsz hP hD hX hA hl
  obtain ⟨hx, hb, hml, hown, hts⟩ := id F
  have hE := hX.1
  have hK := hE.1
  generalize va_A ([(h0, .inr (0, [.ref kt, .int (nI tl), .ref ka, .int (nI al), .ref kp, .int (nI pn), .ref kks, .ref kds, .ref ksp, .ref kkm, .ref kda]))] ++ pl) sz = A at hD hX hE hA ⊢
  have hXT : ext T T := ext_rf
  have hS : va_S A s.heap s.heap [] := va_S.rf
  have hl : lv_has ls 2 [(0, .ref h0), (1, .int v)] := hl
  refine lv_iload_n hx hb dK_result_0 rfl (lv_at hl 1 rfl) ?_
  refine lv_if_lt (tgt := 12) hx hb dK_result_1 (by decide) (fun h21 => ?_) (fun h21 => ?_)
  · exact et_throw (own := "LatticeKeys") (cls := "java/lang/IndexOutOfBoundsException") (text := "no such byte in the result") (names := ["java/lang/RuntimeException", "java/lang/Exception"]) (ik := 90) (is := 241) (ic := 94) hx hb htr ctr_IOB_0 ctr_IOB_1 ctr_IOB_2 ctr_IOB_5 hown (by decide) (by decide) (hts _ (wg_t kw_535)) (hts _ (wg_t kw_20)) (hX.2.2.2.2.2.1 20 ("LatticeKeys", 241, "no such byte in the result") rfl) (hat_IOB hts hX.2) hS.1 (hl.1.trans hml.symm) dK_result_12 dK_result_15 dK_result_16 dK_result_18 dK_result_21 htab (Nat.le_of_ble_eq_true rfl) (Nat.le_of_ble_eq_true rfl) (Nat.le_of_ble_eq_true rfl) (Nat.le_of_ble_eq_true rfl) hlk (Nat.le_of_ble_eq_true rfl) (Nat.le_of_ble_eq_true rfl) List.mem_cons_self hS.2.2 (thr_st hX.2) (fun t hz9 hk9 => ⟨⟨((T, tl, al, pn), pl), ⟨⟨⟨(by show tl ≤ 16384; omega), (by show al ≤ 8192; omega), (by show pn ≤ 8; omega), hXT, hU⟩, trivial⟩, hO⟩, lc_P hP hk9, hD⟩, (lc_S hS hz9 hk9).F rfl⟩)
  · refine lv_iload_n hx hb dK_result_4 rfl (lv_at hl 1 rfl) ?_
    refine lv_aload_n hx hb dK_result_5 rfl (lv_at hl 0 rfl) ?_
    refine va_get (D := g.1) (ci := 0) (C := "LatticeKeys") (T := T_K) (N := 11) hx hb hts (wg_ft i_K) hown hK hP 0 rfl rfl 3 (by decide) (hts _ (wg_t kw_377)) (fun _ h9 => h9) rfl dK_result_6 ?_
    refine lv_icmp_lt (tgt := 22) hx hb dK_result_9 (by decide) (fun h22 => ?_) (fun h22 => ?_)
    · obtain ⟨z21, hz21, rfl⟩ := i32_ltc h21 (by omega) h22
      refine lv_aload_n hx hb dK_result_22 rfl (lv_at hl 0 rfl) ?_
      refine va_get (D := g.1) (ci := 0) (C := "LatticeKeys") (T := T_K) (N := 11) hx hb hts (wg_ft i_K) hown hK hP 0 rfl rfl 2 (by decide) (hts _ (wg_t kw_376)) (fun _ h9 => h9) rfl dK_result_23 ?_
      refine lv_iload_n hx hb dK_result_26 rfl (lv_at hl 1 rfl) ?_
      refine ty_bald hx hb hK hO k_ka (nxg clo_nil k_ka rfl) hP (vp_in_nI (by omega) (by decide)) dK_result_27 (fun z22 => ?_)
      refine lv_sipush (v := nI 255) hx hb dK_result_28 (by decide) ?_
      refine mi_iand hx hb 8 dK_result_31 (by decide) (fun z23 hz22 => ?_)
      have hz22 : z23 < 256 := hz22
      refine et_ret ?_
      exact mp_iret hx hb hr hlk hP hD hS ((T, tl, al, pn), pl) ⟨⟨⟨(by show tl ≤ 16384; omega), (by show al ≤ 8192; omega), (by show pn ≤ 8; omega), hXT, hU⟩, trivial⟩, hO⟩ [0] rfl rfl rfl (by omega) (by omega) dK_result_32
    · exact et_throw (own := "LatticeKeys") (cls := "java/lang/IndexOutOfBoundsException") (text := "no such byte in the result") (names := ["java/lang/RuntimeException", "java/lang/Exception"]) (ik := 90) (is := 241) (ic := 94) hx hb htr ctr_IOB_0 ctr_IOB_1 ctr_IOB_2 ctr_IOB_5 hown (by decide) (by decide) (hts _ (wg_t kw_535)) (hts _ (wg_t kw_20)) (hX.2.2.2.2.2.1 20 ("LatticeKeys", 241, "no such byte in the result") rfl) (hat_IOB hts hX.2) hS.1 (hl.1.trans hml.symm) dK_result_12 dK_result_15 dK_result_16 dK_result_18 dK_result_21 htab (Nat.le_of_ble_eq_true rfl) (Nat.le_of_ble_eq_true rfl) (Nat.le_of_ble_eq_true rfl) (Nat.le_of_ble_eq_true rfl) hlk (Nat.le_of_ble_eq_true rfl) (Nat.le_of_ble_eq_true rfl) List.mem_cons_self hS.2.2 (thr_st hX.2) (fun t hz9 hk9 => ⟨⟨((T, tl, al, pn), pl), ⟨⟨⟨(by show tl ≤ 16384; omega), (by show al ≤ 8192; omega), (by show pn ≤ 8; omega), hXT, hU⟩, trivial⟩, hO⟩, lc_P hP hk9, hD⟩, (lc_S hS hz9 hk9).F rfl⟩)
set_option maxHeartbeats 4000000 in
set_option maxRecDepth 100000 in
theorem t_K_count (l : Launch) (g : Gd) (sz : Nat) (T : Ty) (pl : va_W) (hO : okx g T [] pl) (hU : uni T) (v : Int32) (h0 kt ka kp kks kds ksp kkm kda tl al pn : Nat) (k_kt : T kt = some (1, 16384)) (k_ka : T ka = some (1, 8192)) (k_kp : T kp = some (6, 0)) (k_kks : T kks = some (50, 0)) (k_kds : T kds = some (51, 0)) (k_ksp : T ksp = some (10, 0)) (k_kkm : T kkm = some (13, 0)) (k_kda : T kda = some (15, 0)) (hb : tl ≤ 16384 ∧ al ≤ 8192 ∧ pn ≤ 8)  : Met l y_K_count w_K_count ({ frames := 0, cells := 0, slots := 0, locals := 0 } : Room) (va_Pc [.ref h0, .int v] (pr (en g) g.1 vcl sz ([(h0, .inr (0, [.ref kt, .int (nI tl), .ref ka, .int (nI al), .ref kp, .int (nI pn), .ref kks, .ref kds, .ref ksp, .ref kkm, .ref kda]))] ++ pl))) (va_Qi (fun (r : Int32) (u : va_W) => (True) ∧ okx g T [] u) (po g.1 vcl (va_A ([(h0, .inr (0, [.ref kt, .int (nI tl), .ref ka, .int (nI al), .ref kp, .int (nI pn), .ref kks, .ref kds, .ref ksp, .ref kkm, .ref kda]))] ++ pl) sz) (fun (u : va_W) => [(h0, .inr (0, [.ref kt, .int (nI tl), .ref ka, .int (nI al), .ref kp, .int (nI pn), .ref kks, .ref kds, .ref ksp, .ref kkm, .ref kda]))] ++ u)) (va_A ([(h0, .inr (0, [.ref kt, .int (nI tl), .ref ka, .int (nI al), .ref kp, .int (nI pn), .ref kks, .ref kds, .ref ksp, .ref kkm, .ref kda]))] ++ pl) sz)) 0 0 (va_A ([(h0, .inr (0, [.ref kt, .int (nI tl), .ref ka, .int (nI al), .ref kp, .int (nI pn), .ref kks, .ref kds, .ref ksp, .ref kkm, .ref kda]))] ++ pl) sz) := by
  refine mc_entry (cc := c_K_count) (maxL := 2) (ret := (some .int)) (by decide) rfl (Nat.le_of_ble_eq_true rfl) ?_
  intro p e s m args below meth c ls F hr hlk hnm hsz hP hD hE hA hl
  obtain ⟨hx, hb, hml, hown, hts⟩ := id F
  have hK := hE.1
  generalize va_A ([(h0, .inr (0, [.ref kt, .int (nI tl), .ref ka, .int (nI al), .ref kp, .int (nI pn), .ref kks, .ref kds, .ref ksp, .ref kkm, .ref kda]))] ++ pl) sz = A at hD hE hA ⊢
  have hS : va_S A s.heap s.heap [] := va_S.rf
  have hl : lv_has ls 2 [(0, .ref h0), (1, .int v)] := hl
  refine lv_iload_n hx hb dK_count_0 rfl (lv_at hl 1 rfl) ?_
  rcases rng (v := v) 2 (by decide) with hb9 | hb9
  · obtain ⟨j9, hj9, rfl⟩ := hb9
    match j9, hj9 with
    | 0, _ =>
      refine lv_tableIn (off := 27) (tgt := 28) hx hb dK_count_1 (by decide) (by decide) (by decide) (by decide) ?_
      refine lv_aload_n hx hb dK_count_28 rfl (lv_at hl 0 rfl) ?_
      refine va_get (D := g.1) (ci := 0) (C := "LatticeKeys") (T := T_K) (N := 11) hx hb hts (wg_ft i_K) hown hK hP 0 rfl rfl 1 (by decide) (hts _ (wg_t kw_375)) (fun _ h9 => h9) rfl dK_count_29 ?_
      exact mp_iret hx hb hr hlk hP hD hS pl ⟨trivial, hO⟩ [0] rfl rfl rfl (by omega) (by omega) dK_count_32
    | 1, _ =>
      refine lv_tableIn (off := 32) (tgt := 33) hx hb dK_count_1 (by decide) (by decide) (by decide) (by decide) ?_
      refine lv_aload_n hx hb dK_count_33 rfl (lv_at hl 0 rfl) ?_
      refine va_get (D := g.1) (ci := 0) (C := "LatticeKeys") (T := T_K) (N := 11) hx hb hts (wg_ft i_K) hown hK hP 0 rfl rfl 5 (by decide) (hts _ (wg_t kw_379)) (fun _ h9 => h9) rfl dK_count_34 ?_
      exact mp_iret hx hb hr hlk hP hD hS pl ⟨trivial, hO⟩ [0] rfl rfl rfl (by omega) (by omega) dK_count_37
    | 2, _ =>
      refine lv_tableIn (off := 37) (tgt := 38) hx hb dK_count_1 (by decide) (by decide) (by decide) (by decide) ?_
      refine lv_aload_n hx hb dK_count_38 rfl (lv_at hl 0 rfl) ?_
      refine va_get (D := g.1) (ci := 0) (C := "LatticeKeys") (T := T_K) (N := 11) hx hb hts (wg_ft i_K) hown hK hP 0 rfl rfl 3 (by decide) (hts _ (wg_t kw_377)) (fun _ h9 => h9) rfl dK_count_39 ?_
      exact mp_iret hx hb hr hlk hP hD hS pl ⟨trivial, hO⟩ [0] rfl rfl rfl (by omega) (by omega) dK_count_42
    | _ + 3, h9 => exact absurd h9 (by omega)
  · refine lv_tableOut (tgt := 43) hx hb dK_count_1 (tout (by decide) hb9) (by decide) ?_
    refine lv_iconst (v := (-1)) hx hb dK_count_43 (by decide) ?_
    exact mp_iret hx hb hr hlk hP hD hS pl ⟨trivial, hO⟩ [0] rfl rfl rfl (by omega) (by omega) dK_count_44
