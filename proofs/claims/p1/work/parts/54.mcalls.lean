abbrev c_M_four : ByteArray := prog_12_method_8_code
abbrev y_M_four : MethodName := ⟨"LatticeKeysModel", "four", "(I)V"⟩
abbrev w_M_four : List Cond := Cond.code y_M_four c_M_four 3 none :: WG
theorem dM_four_0 : decode c_M_four 0 = .ok (.bipush 24, 2) := by decide +kernel
theorem dM_four_2 : decode c_M_four 2 = .ok (.istore_n 2, 1) := by decide +kernel
theorem dM_four_3 : decode c_M_four 3 = .ok (.iload_n 2, 1) := by decide +kernel
theorem dM_four_4 : decode c_M_four 4 = .ok (.ifCond .lt 32, 3) := by decide +kernel
theorem dM_four_7 : decode c_M_four 7 = .ok (.aload_n 0, 1) := by decide +kernel
theorem dM_four_8 : decode c_M_four 8 = .ok (.getfield 7, 3) := by decide +kernel
theorem dM_four_11 : decode c_M_four 11 = .ok (.aload_n 0, 1) := by decide +kernel
theorem dM_four_12 : decode c_M_four 12 = .ok (.getfield 70, 3) := by decide +kernel
theorem dM_four_15 : decode c_M_four 15 = .ok (.iload_n 1, 1) := by decide +kernel
theorem dM_four_16 : decode c_M_four 16 = .ok (.iload_n 2, 1) := by decide +kernel
theorem dM_four_17 : decode c_M_four 17 = .ok (.ishr, 1) := by decide +kernel
theorem dM_four_18 : decode c_M_four 18 = .ok (.i2b, 1) := by decide +kernel
theorem dM_four_19 : decode c_M_four 19 = .ok (.bastore, 1) := by decide +kernel
theorem dM_four_20 : decode c_M_four 20 = .ok (.aload_n 0, 1) := by decide +kernel
theorem dM_four_21 : decode c_M_four 21 = .ok (.dup, 1) := by decide +kernel
theorem dM_four_22 : decode c_M_four 22 = .ok (.getfield 70, 3) := by decide +kernel
theorem dM_four_25 : decode c_M_four 25 = .ok (.iconst 1, 1) := by decide +kernel
theorem dM_four_26 : decode c_M_four 26 = .ok (.iadd, 1) := by decide +kernel
theorem dM_four_27 : decode c_M_four 27 = .ok (.putfield 70, 3) := by decide +kernel
theorem dM_four_30 : decode c_M_four 30 = .ok (.iinc 2 (-8), 3) := by decide +kernel
theorem dM_four_33 : decode c_M_four 33 = .ok (.goto (-30), 3) := by decide +kernel
theorem dM_four_36 : decode c_M_four 36 = .ok (.return_, 1) := by decide +kernel
abbrev c_M_feed : ByteArray := prog_12_method_9_code
abbrev y_M_feed : MethodName := ⟨"LatticeKeysModel", "feed", "(IIIII)I"⟩
abbrev w_M_feed : List Cond := Cond.code y_M_feed c_M_feed 6 (some .int) :: WG
theorem dM_feed_0 : decode c_M_feed 0 = .ok (.aload_n 0, 1) := by decide +kernel
theorem dM_feed_1 : decode c_M_feed 1 = .ok (.iconst 0, 1) := by decide +kernel
theorem dM_feed_2 : decode c_M_feed 2 = .ok (.putfield 57, 3) := by decide +kernel
theorem dM_feed_5 : decode c_M_feed 5 = .ok (.aload_n 0, 1) := by decide +kernel
theorem dM_feed_6 : decode c_M_feed 6 = .ok (.getfield 70, 3) := by decide +kernel
theorem dM_feed_9 : decode c_M_feed 9 = .ok (.bipush 20, 2) := by decide +kernel
theorem dM_feed_11 : decode c_M_feed 11 = .ok (.iadd, 1) := by decide +kernel
theorem dM_feed_12 : decode c_M_feed 12 = .ok (.sipush 16384, 3) := by decide +kernel
theorem dM_feed_15 : decode c_M_feed 15 = .ok (.if_icmp .le 9, 3) := by decide +kernel
theorem dM_feed_18 : decode c_M_feed 18 = .ok (.aload_n 0, 1) := by decide +kernel
theorem dM_feed_19 : decode c_M_feed 19 = .ok (.iconst 1, 1) := by decide +kernel
theorem dM_feed_20 : decode c_M_feed 20 = .ok (.invokevirtual 73, 3) := by decide +kernel
theorem dM_feed_23 : decode c_M_feed 23 = .ok (.ireturn, 1) := by decide +kernel
theorem dM_feed_24 : decode c_M_feed 24 = .ok (.aload_n 0, 1) := by decide +kernel
theorem dM_feed_25 : decode c_M_feed 25 = .ok (.iload_n 1, 1) := by decide +kernel
theorem dM_feed_26 : decode c_M_feed 26 = .ok (.invokevirtual 76, 3) := by decide +kernel
theorem dM_feed_29 : decode c_M_feed 29 = .ok (.aload_n 0, 1) := by decide +kernel
theorem dM_feed_30 : decode c_M_feed 30 = .ok (.iload_n 2, 1) := by decide +kernel
theorem dM_feed_31 : decode c_M_feed 31 = .ok (.invokevirtual 76, 3) := by decide +kernel
theorem dM_feed_34 : decode c_M_feed 34 = .ok (.aload_n 0, 1) := by decide +kernel
theorem dM_feed_35 : decode c_M_feed 35 = .ok (.iload_n 3, 1) := by decide +kernel
theorem dM_feed_36 : decode c_M_feed 36 = .ok (.invokevirtual 76, 3) := by decide +kernel
theorem dM_feed_39 : decode c_M_feed 39 = .ok (.aload_n 0, 1) := by decide +kernel
theorem dM_feed_40 : decode c_M_feed 40 = .ok (.iload 4, 2) := by decide +kernel
theorem dM_feed_42 : decode c_M_feed 42 = .ok (.invokevirtual 76, 3) := by decide +kernel
theorem dM_feed_45 : decode c_M_feed 45 = .ok (.aload_n 0, 1) := by decide +kernel
theorem dM_feed_46 : decode c_M_feed 46 = .ok (.iload 5, 2) := by decide +kernel
theorem dM_feed_48 : decode c_M_feed 48 = .ok (.invokevirtual 76, 3) := by decide +kernel
theorem dM_feed_51 : decode c_M_feed 51 = .ok (.aload_n 0, 1) := by decide +kernel
theorem dM_feed_52 : decode c_M_feed 52 = .ok (.getfield 70, 3) := by decide +kernel
theorem dM_feed_55 : decode c_M_feed 55 = .ok (.ireturn, 1) := by decide +kernel
abbrev c_M_end : ByteArray := prog_12_method_10_code
abbrev y_M_end : MethodName := ⟨"LatticeKeysModel", "end", "(I)I"⟩
abbrev w_M_end : List Cond := Cond.code y_M_end c_M_end 2 (some .int) :: WG
theorem dM_end_0 : decode c_M_end 0 = .ok (.aload_n 0, 1) := by decide +kernel
theorem dM_end_1 : decode c_M_end 1 = .ok (.iconst 0, 1) := by decide +kernel
theorem dM_end_2 : decode c_M_end 2 = .ok (.putfield 57, 3) := by decide +kernel
theorem dM_end_5 : decode c_M_end 5 = .ok (.iload_n 1, 1) := by decide +kernel
theorem dM_end_6 : decode c_M_end 6 = .ok (.ifCond .lt 11, 3) := by decide +kernel
theorem dM_end_9 : decode c_M_end 9 = .ok (.iload_n 1, 1) := by decide +kernel
theorem dM_end_10 : decode c_M_end 10 = .ok (.aload_n 0, 1) := by decide +kernel
theorem dM_end_11 : decode c_M_end 11 = .ok (.getfield 70, 3) := by decide +kernel
theorem dM_end_14 : decode c_M_end 14 = .ok (.if_icmp .le 9, 3) := by decide +kernel
theorem dM_end_17 : decode c_M_end 17 = .ok (.aload_n 0, 1) := by decide +kernel
theorem dM_end_18 : decode c_M_end 18 = .ok (.iconst 1, 1) := by decide +kernel
theorem dM_end_19 : decode c_M_end 19 = .ok (.invokevirtual 73, 3) := by decide +kernel
theorem dM_end_22 : decode c_M_end 22 = .ok (.ireturn, 1) := by decide +kernel
theorem dM_end_23 : decode c_M_end 23 = .ok (.aload_n 0, 1) := by decide +kernel
theorem dM_end_24 : decode c_M_end 24 = .ok (.iload_n 1, 1) := by decide +kernel
theorem dM_end_25 : decode c_M_end 25 = .ok (.putfield 70, 3) := by decide +kernel
theorem dM_end_28 : decode c_M_end 28 = .ok (.iload_n 1, 1) := by decide +kernel
theorem dM_end_29 : decode c_M_end 29 = .ok (.ireturn, 1) := by decide +kernel
abbrev c_M_again : ByteArray := prog_12_method_11_code
abbrev y_M_again : MethodName := ⟨"LatticeKeysModel", "again", "()I"⟩
abbrev w_M_again : List Cond := Cond.code y_M_again c_M_again 2 (some .int) :: WG
theorem dM_again_0 : decode c_M_again 0 = .ok (.aload_n 0, 1) := by decide +kernel
theorem dM_again_1 : decode c_M_again 1 = .ok (.iconst 0, 1) := by decide +kernel
theorem dM_again_2 : decode c_M_again 2 = .ok (.putfield 57, 3) := by decide +kernel
theorem dM_again_5 : decode c_M_again 5 = .ok (.aload_n 0, 1) := by decide +kernel
theorem dM_again_6 : decode c_M_again 6 = .ok (.getfield 70, 3) := by decide +kernel
theorem dM_again_9 : decode c_M_again 9 = .ok (.aload_n 0, 1) := by decide +kernel
theorem dM_again_10 : decode c_M_again 10 = .ok (.getfield 80, 3) := by decide +kernel
theorem dM_again_13 : decode c_M_again 13 = .ok (.iadd, 1) := by decide +kernel
theorem dM_again_14 : decode c_M_again 14 = .ok (.sipush 16384, 3) := by decide +kernel
theorem dM_again_17 : decode c_M_again 17 = .ok (.if_icmp .le 9, 3) := by decide +kernel
theorem dM_again_20 : decode c_M_again 20 = .ok (.aload_n 0, 1) := by decide +kernel
theorem dM_again_21 : decode c_M_again 21 = .ok (.iconst 1, 1) := by decide +kernel
theorem dM_again_22 : decode c_M_again 22 = .ok (.invokevirtual 73, 3) := by decide +kernel
theorem dM_again_25 : decode c_M_again 25 = .ok (.ireturn, 1) := by decide +kernel
theorem dM_again_26 : decode c_M_again 26 = .ok (.iconst 0, 1) := by decide +kernel
theorem dM_again_27 : decode c_M_again 27 = .ok (.istore_n 1, 1) := by decide +kernel
theorem dM_again_28 : decode c_M_again 28 = .ok (.iload_n 1, 1) := by decide +kernel
theorem dM_again_29 : decode c_M_again 29 = .ok (.aload_n 0, 1) := by decide +kernel
theorem dM_again_30 : decode c_M_again 30 = .ok (.getfield 80, 3) := by decide +kernel
theorem dM_again_33 : decode c_M_again 33 = .ok (.if_icmp .ge 26, 3) := by decide +kernel
theorem dM_again_36 : decode c_M_again 36 = .ok (.aload_n 0, 1) := by decide +kernel
theorem dM_again_37 : decode c_M_again 37 = .ok (.getfield 7, 3) := by decide +kernel
theorem dM_again_40 : decode c_M_again 40 = .ok (.aload_n 0, 1) := by decide +kernel
theorem dM_again_41 : decode c_M_again 41 = .ok (.getfield 70, 3) := by decide +kernel
theorem dM_again_44 : decode c_M_again 44 = .ok (.iload_n 1, 1) := by decide +kernel
theorem dM_again_45 : decode c_M_again 45 = .ok (.iadd, 1) := by decide +kernel
theorem dM_again_46 : decode c_M_again 46 = .ok (.aload_n 0, 1) := by decide +kernel
theorem dM_again_47 : decode c_M_again 47 = .ok (.getfield 13, 3) := by decide +kernel
theorem dM_again_50 : decode c_M_again 50 = .ok (.iload_n 1, 1) := by decide +kernel
theorem dM_again_51 : decode c_M_again 51 = .ok (.baload, 1) := by decide +kernel
theorem dM_again_52 : decode c_M_again 52 = .ok (.bastore, 1) := by decide +kernel
theorem dM_again_53 : decode c_M_again 53 = .ok (.iinc 1 1, 3) := by decide +kernel
theorem dM_again_56 : decode c_M_again 56 = .ok (.goto (-28), 3) := by decide +kernel
theorem dM_again_59 : decode c_M_again 59 = .ok (.aload_n 0, 1) := by decide +kernel
theorem dM_again_60 : decode c_M_again 60 = .ok (.dup, 1) := by decide +kernel
theorem dM_again_61 : decode c_M_again 61 = .ok (.getfield 70, 3) := by decide +kernel
theorem dM_again_64 : decode c_M_again 64 = .ok (.aload_n 0, 1) := by decide +kernel
theorem dM_again_65 : decode c_M_again 65 = .ok (.getfield 80, 3) := by decide +kernel
theorem dM_again_68 : decode c_M_again 68 = .ok (.iadd, 1) := by decide +kernel
theorem dM_again_69 : decode c_M_again 69 = .ok (.putfield 70, 3) := by decide +kernel
theorem dM_again_72 : decode c_M_again 72 = .ok (.aload_n 0, 1) := by decide +kernel
theorem dM_again_73 : decode c_M_again 73 = .ok (.getfield 70, 3) := by decide +kernel
theorem dM_again_76 : decode c_M_again 76 = .ok (.ireturn, 1) := by decide +kernel
abbrev c_M_alter : ByteArray := prog_12_method_12_code
abbrev y_M_alter : MethodName := ⟨"LatticeKeysModel", "alter", "(II)I"⟩
abbrev w_M_alter : List Cond := Cond.code y_M_alter c_M_alter 3 (some .int) :: WG
theorem dM_alter_0 : decode c_M_alter 0 = .ok (.aload_n 0, 1) := by decide +kernel
theorem dM_alter_1 : decode c_M_alter 1 = .ok (.iconst 0, 1) := by decide +kernel
theorem dM_alter_2 : decode c_M_alter 2 = .ok (.putfield 57, 3) := by decide +kernel
theorem dM_alter_5 : decode c_M_alter 5 = .ok (.iload_n 1, 1) := by decide +kernel
theorem dM_alter_6 : decode c_M_alter 6 = .ok (.ifCond .lt 11, 3) := by decide +kernel
theorem dM_alter_9 : decode c_M_alter 9 = .ok (.iload_n 1, 1) := by decide +kernel
theorem dM_alter_10 : decode c_M_alter 10 = .ok (.aload_n 0, 1) := by decide +kernel
theorem dM_alter_11 : decode c_M_alter 11 = .ok (.getfield 70, 3) := by decide +kernel
theorem dM_alter_14 : decode c_M_alter 14 = .ok (.if_icmp .lt 9, 3) := by decide +kernel
theorem dM_alter_17 : decode c_M_alter 17 = .ok (.aload_n 0, 1) := by decide +kernel
theorem dM_alter_18 : decode c_M_alter 18 = .ok (.iconst 1, 1) := by decide +kernel
theorem dM_alter_19 : decode c_M_alter 19 = .ok (.invokevirtual 73, 3) := by decide +kernel
theorem dM_alter_22 : decode c_M_alter 22 = .ok (.ireturn, 1) := by decide +kernel
theorem dM_alter_23 : decode c_M_alter 23 = .ok (.aload_n 0, 1) := by decide +kernel
theorem dM_alter_24 : decode c_M_alter 24 = .ok (.getfield 7, 3) := by decide +kernel
theorem dM_alter_27 : decode c_M_alter 27 = .ok (.iload_n 1, 1) := by decide +kernel
theorem dM_alter_28 : decode c_M_alter 28 = .ok (.dup2, 1) := by decide +kernel
theorem dM_alter_29 : decode c_M_alter 29 = .ok (.baload, 1) := by decide +kernel
theorem dM_alter_30 : decode c_M_alter 30 = .ok (.iload_n 2, 1) := by decide +kernel
theorem dM_alter_31 : decode c_M_alter 31 = .ok (.i2b, 1) := by decide +kernel
theorem dM_alter_32 : decode c_M_alter 32 = .ok (.ixor, 1) := by decide +kernel
theorem dM_alter_33 : decode c_M_alter 33 = .ok (.i2b, 1) := by decide +kernel
theorem dM_alter_34 : decode c_M_alter 34 = .ok (.bastore, 1) := by decide +kernel
theorem dM_alter_35 : decode c_M_alter 35 = .ok (.aload_n 0, 1) := by decide +kernel
theorem dM_alter_36 : decode c_M_alter 36 = .ok (.getfield 7, 3) := by decide +kernel
theorem dM_alter_39 : decode c_M_alter 39 = .ok (.iload_n 1, 1) := by decide +kernel
theorem dM_alter_40 : decode c_M_alter 40 = .ok (.baload, 1) := by decide +kernel
theorem dM_alter_41 : decode c_M_alter 41 = .ok (.sipush 255, 3) := by decide +kernel
theorem dM_alter_44 : decode c_M_alter 44 = .ok (.iand, 1) := by decide +kernel
theorem dM_alter_45 : decode c_M_alter 45 = .ok (.ireturn, 1) := by decide +kernel
abbrev c_M_keys : ByteArray := prog_12_method_14_code
abbrev y_M_keys : MethodName := ⟨"LatticeKeysModel", "keys", "(I)I"⟩
abbrev w_M_keys : List Cond := Cond.code y_M_keys c_M_keys 2 (some .int) :: WG
theorem dM_keys_0 : decode c_M_keys 0 = .ok (.aload_n 0, 1) := by decide +kernel
theorem dM_keys_1 : decode c_M_keys 1 = .ok (.iconst 0, 1) := by decide +kernel
theorem dM_keys_2 : decode c_M_keys 2 = .ok (.putfield 57, 3) := by decide +kernel
theorem dM_keys_5 : decode c_M_keys 5 = .ok (.iload_n 1, 1) := by decide +kernel
theorem dM_keys_6 : decode c_M_keys 6 = .ok (.ifCond .lt 27, 3) := by decide +kernel
theorem dM_keys_9 : decode c_M_keys 9 = .ok (.iload_n 1, 1) := by decide +kernel
theorem dM_keys_10 : decode c_M_keys 10 = .ok (.iconst 5, 1) := by decide +kernel
theorem dM_keys_11 : decode c_M_keys 11 = .ok (.if_icmp .gt 22, 3) := by decide +kernel
theorem dM_keys_14 : decode c_M_keys 14 = .ok (.aload_n 0, 1) := by decide +kernel
theorem dM_keys_15 : decode c_M_keys 15 = .ok (.getfield 70, 3) := by decide +kernel
theorem dM_keys_18 : decode c_M_keys 18 = .ok (.iload_n 1, 1) := by decide +kernel
theorem dM_keys_19 : decode c_M_keys 19 = .ok (.iconst 3, 1) := by decide +kernel
theorem dM_keys_20 : decode c_M_keys 20 = .ok (.if_icmp .ge 8, 3) := by decide +kernel
theorem dM_keys_23 : decode c_M_keys 23 = .ok (.bipush 64, 2) := by decide +kernel
theorem dM_keys_25 : decode c_M_keys 25 = .ok (.goto 5, 3) := by decide +kernel
theorem dM_keys_28 : decode c_M_keys 28 = .ok (.bipush 32, 2) := by decide +kernel
theorem dM_keys_30 : decode c_M_keys 30 = .ok (.if_icmp .eq 9, 3) := by decide +kernel
theorem dM_keys_33 : decode c_M_keys 33 = .ok (.aload_n 0, 1) := by decide +kernel
theorem dM_keys_34 : decode c_M_keys 34 = .ok (.iconst 1, 1) := by decide +kernel
theorem dM_keys_35 : decode c_M_keys 35 = .ok (.invokevirtual 73, 3) := by decide +kernel
theorem dM_keys_38 : decode c_M_keys 38 = .ok (.ireturn, 1) := by decide +kernel
theorem dM_keys_39 : decode c_M_keys 39 = .ok (.aload_n 0, 1) := by decide +kernel
theorem dM_keys_40 : decode c_M_keys 40 = .ok (.getfield 83, 3) := by decide +kernel
theorem dM_keys_43 : decode c_M_keys 43 = .ok (.bipush 8, 2) := by decide +kernel
theorem dM_keys_45 : decode c_M_keys 45 = .ok (.if_icmp .ne 9, 3) := by decide +kernel
theorem dM_keys_48 : decode c_M_keys 48 = .ok (.aload_n 0, 1) := by decide +kernel
theorem dM_keys_49 : decode c_M_keys 49 = .ok (.iconst 2, 1) := by decide +kernel
theorem dM_keys_50 : decode c_M_keys 50 = .ok (.invokevirtual 73, 3) := by decide +kernel
theorem dM_keys_53 : decode c_M_keys 53 = .ok (.ireturn, 1) := by decide +kernel
theorem dM_keys_54 : decode c_M_keys 54 = .ok (.iload_n 1, 1) := by decide +kernel
theorem dM_keys_55 : decode c_M_keys 55 = .ok (.iconst 3, 1) := by decide +kernel
theorem dM_keys_56 : decode c_M_keys 56 = .ok (.if_icmp .ge 36, 3) := by decide +kernel
theorem dM_keys_59 : decode c_M_keys 59 = .ok (.aload_n 0, 1) := by decide +kernel
theorem dM_keys_60 : decode c_M_keys 60 = .ok (.getfield 46, 3) := by decide +kernel
theorem dM_keys_63 : decode c_M_keys 63 = .ok (.iload_n 1, 1) := by decide +kernel
theorem dM_keys_64 : decode c_M_keys 64 = .ok (.aload_n 0, 1) := by decide +kernel
theorem dM_keys_65 : decode c_M_keys 65 = .ok (.getfield 7, 3) := by decide +kernel
theorem dM_keys_68 : decode c_M_keys 68 = .ok (.aload_n 0, 1) := by decide +kernel
theorem dM_keys_69 : decode c_M_keys 69 = .ok (.getfield 21, 3) := by decide +kernel
theorem dM_keys_72 : decode c_M_keys 72 = .ok (.aload_n 0, 1) := by decide +kernel
theorem dM_keys_73 : decode c_M_keys 73 = .ok (.getfield 83, 3) := by decide +kernel
theorem dM_keys_76 : decode c_M_keys 76 = .ok (.aaload, 1) := by decide +kernel
theorem dM_keys_77 : decode c_M_keys 77 = .ok (.aload_n 0, 1) := by decide +kernel
theorem dM_keys_78 : decode c_M_keys 78 = .ok (.getfield 24, 3) := by decide +kernel
theorem dM_keys_81 : decode c_M_keys 81 = .ok (.aload_n 0, 1) := by decide +kernel
theorem dM_keys_82 : decode c_M_keys 82 = .ok (.getfield 83, 3) := by decide +kernel
theorem dM_keys_85 : decode c_M_keys 85 = .ok (.aaload, 1) := by decide +kernel
theorem dM_keys_86 : decode c_M_keys 86 = .ok (.invokevirtual 86, 3) := by decide +kernel
theorem dM_keys_89 : decode c_M_keys 89 = .ok (.goto 35, 3) := by decide +kernel
theorem dM_keys_92 : decode c_M_keys 92 = .ok (.aload_n 0, 1) := by decide +kernel
theorem dM_keys_93 : decode c_M_keys 93 = .ok (.getfield 53, 3) := by decide +kernel
theorem dM_keys_96 : decode c_M_keys 96 = .ok (.iload_n 1, 1) := by decide +kernel
theorem dM_keys_97 : decode c_M_keys 97 = .ok (.iconst 3, 1) := by decide +kernel
theorem dM_keys_98 : decode c_M_keys 98 = .ok (.isub, 1) := by decide +kernel
theorem dM_keys_99 : decode c_M_keys 99 = .ok (.aload_n 0, 1) := by decide +kernel
theorem dM_keys_100 : decode c_M_keys 100 = .ok (.getfield 7, 3) := by decide +kernel
theorem dM_keys_103 : decode c_M_keys 103 = .ok (.aload_n 0, 1) := by decide +kernel
theorem dM_keys_104 : decode c_M_keys 104 = .ok (.getfield 21, 3) := by decide +kernel
theorem dM_keys_107 : decode c_M_keys 107 = .ok (.aload_n 0, 1) := by decide +kernel
theorem dM_keys_108 : decode c_M_keys 108 = .ok (.getfield 83, 3) := by decide +kernel
theorem dM_keys_111 : decode c_M_keys 111 = .ok (.aaload, 1) := by decide +kernel
theorem dM_keys_112 : decode c_M_keys 112 = .ok (.aload_n 0, 1) := by decide +kernel
theorem dM_keys_113 : decode c_M_keys 113 = .ok (.getfield 24, 3) := by decide +kernel
theorem dM_keys_116 : decode c_M_keys 116 = .ok (.aload_n 0, 1) := by decide +kernel
theorem dM_keys_117 : decode c_M_keys 117 = .ok (.getfield 83, 3) := by decide +kernel
theorem dM_keys_120 : decode c_M_keys 120 = .ok (.aaload, 1) := by decide +kernel
theorem dM_keys_121 : decode c_M_keys 121 = .ok (.invokevirtual 89, 3) := by decide +kernel
theorem dM_keys_124 : decode c_M_keys 124 = .ok (.aload_n 0, 1) := by decide +kernel
theorem dM_keys_125 : decode c_M_keys 125 = .ok (.iload_n 1, 1) := by decide +kernel
theorem dM_keys_126 : decode c_M_keys 126 = .ok (.iload_n 1, 1) := by decide +kernel
theorem dM_keys_127 : decode c_M_keys 127 = .ok (.invokestatic 90, 3) := by decide +kernel
theorem dM_keys_130 : decode c_M_keys 130 = .ok (.invokevirtual 91, 3) := by decide +kernel
theorem dM_keys_133 : decode c_M_keys 133 = .ok (.ireturn, 1) := by decide +kernel
abbrev c_M_load : ByteArray := prog_12_method_15_code
abbrev y_M_load : MethodName := ⟨"LatticeKeysModel", "load", "(IZ)I"⟩
abbrev w_M_load : List Cond := Cond.code y_M_load c_M_load 5 (some .int) :: WG
theorem dM_load_0 : decode c_M_load 0 = .ok (.aload_n 0, 1) := by decide +kernel
theorem dM_load_1 : decode c_M_load 1 = .ok (.iconst 0, 1) := by decide +kernel
theorem dM_load_2 : decode c_M_load 2 = .ok (.putfield 57, 3) := by decide +kernel
theorem dM_load_5 : decode c_M_load 5 = .ok (.iload_n 1, 1) := by decide +kernel
theorem dM_load_6 : decode c_M_load 6 = .ok (.ifCond .lt 38, 3) := by decide +kernel
theorem dM_load_9 : decode c_M_load 9 = .ok (.iload_n 1, 1) := by decide +kernel
theorem dM_load_10 : decode c_M_load 10 = .ok (.iload_n 2, 1) := by decide +kernel
theorem dM_load_11 : decode c_M_load 11 = .ok (.ifCond .eq 7, 3) := by decide +kernel
theorem dM_load_14 : decode c_M_load 14 = .ok (.iconst 2, 1) := by decide +kernel
theorem dM_load_15 : decode c_M_load 15 = .ok (.goto 4, 3) := by decide +kernel
theorem dM_load_18 : decode c_M_load 18 = .ok (.iconst 5, 1) := by decide +kernel
theorem dM_load_19 : decode c_M_load 19 = .ok (.if_icmp .gt 25, 3) := by decide +kernel
theorem dM_load_22 : decode c_M_load 22 = .ok (.aload_n 0, 1) := by decide +kernel
theorem dM_load_23 : decode c_M_load 23 = .ok (.getfield 70, 3) := by decide +kernel
theorem dM_load_26 : decode c_M_load 26 = .ok (.iload_n 2, 1) := by decide +kernel
theorem dM_load_27 : decode c_M_load 27 = .ok (.ifCond .eq 10, 3) := by decide +kernel
theorem dM_load_30 : decode c_M_load 30 = .ok (.iload_n 1, 1) := by decide +kernel
theorem dM_load_31 : decode c_M_load 31 = .ok (.invokestatic 90, 3) := by decide +kernel
theorem dM_load_34 : decode c_M_load 34 = .ok (.goto 7, 3) := by decide +kernel
theorem dM_load_37 : decode c_M_load 37 = .ok (.iload_n 1, 1) := by decide +kernel
theorem dM_load_38 : decode c_M_load 38 = .ok (.invokestatic 95, 3) := by decide +kernel
theorem dM_load_41 : decode c_M_load 41 = .ok (.if_icmp .eq 9, 3) := by decide +kernel
theorem dM_load_44 : decode c_M_load 44 = .ok (.aload_n 0, 1) := by decide +kernel
theorem dM_load_45 : decode c_M_load 45 = .ok (.iconst 1, 1) := by decide +kernel
theorem dM_load_46 : decode c_M_load 46 = .ok (.invokevirtual 73, 3) := by decide +kernel
theorem dM_load_49 : decode c_M_load 49 = .ok (.ireturn, 1) := by decide +kernel
theorem dM_load_50 : decode c_M_load 50 = .ok (.iload_n 1, 1) := by decide +kernel
theorem dM_load_51 : decode c_M_load 51 = .ok (.iconst 3, 1) := by decide +kernel
theorem dM_load_52 : decode c_M_load 52 = .ok (.if_icmp .ge 46, 3) := by decide +kernel
theorem dM_load_55 : decode c_M_load 55 = .ok (.iload_n 2, 1) := by decide +kernel
theorem dM_load_56 : decode c_M_load 56 = .ok (.ifCond .eq 21, 3) := by decide +kernel
theorem dM_load_59 : decode c_M_load 59 = .ok (.aload_n 0, 1) := by decide +kernel
theorem dM_load_60 : decode c_M_load 60 = .ok (.getfield 46, 3) := by decide +kernel
theorem dM_load_63 : decode c_M_load 63 = .ok (.iload_n 1, 1) := by decide +kernel
theorem dM_load_64 : decode c_M_load 64 = .ok (.aload_n 0, 1) := by decide +kernel
theorem dM_load_65 : decode c_M_load 65 = .ok (.getfield 7, 3) := by decide +kernel
theorem dM_load_68 : decode c_M_load 68 = .ok (.invokevirtual 96, 3) := by decide +kernel
theorem dM_load_71 : decode c_M_load 71 = .ok (.ifCond .eq 21, 3) := by decide +kernel
theorem dM_load_74 : decode c_M_load 74 = .ok (.goto 24, 3) := by decide +kernel
theorem dM_load_77 : decode c_M_load 77 = .ok (.aload_n 0, 1) := by decide +kernel
theorem dM_load_78 : decode c_M_load 78 = .ok (.getfield 46, 3) := by decide +kernel
theorem dM_load_81 : decode c_M_load 81 = .ok (.iload_n 1, 1) := by decide +kernel
theorem dM_load_82 : decode c_M_load 82 = .ok (.aload_n 0, 1) := by decide +kernel
theorem dM_load_83 : decode c_M_load 83 = .ok (.getfield 7, 3) := by decide +kernel
theorem dM_load_86 : decode c_M_load 86 = .ok (.invokevirtual 100, 3) := by decide +kernel
theorem dM_load_89 : decode c_M_load 89 = .ok (.ifCond .ne 9, 3) := by decide +kernel
theorem dM_load_92 : decode c_M_load 92 = .ok (.aload_n 0, 1) := by decide +kernel
theorem dM_load_93 : decode c_M_load 93 = .ok (.iconst 2, 1) := by decide +kernel
theorem dM_load_94 : decode c_M_load 94 = .ok (.invokevirtual 73, 3) := by decide +kernel
theorem dM_load_97 : decode c_M_load 97 = .ok (.ireturn, 1) := by decide +kernel
theorem dM_load_98 : decode c_M_load 98 = .ok (.aload_n 0, 1) := by decide +kernel
theorem dM_load_99 : decode c_M_load 99 = .ok (.getfield 83, 3) := by decide +kernel
theorem dM_load_102 : decode c_M_load 102 = .ok (.bipush 8, 2) := by decide +kernel
theorem dM_load_104 : decode c_M_load 104 = .ok (.if_icmp .ne 9, 3) := by decide +kernel
theorem dM_load_107 : decode c_M_load 107 = .ok (.aload_n 0, 1) := by decide +kernel
theorem dM_load_108 : decode c_M_load 108 = .ok (.iconst 3, 1) := by decide +kernel
theorem dM_load_109 : decode c_M_load 109 = .ok (.invokevirtual 73, 3) := by decide +kernel
theorem dM_load_112 : decode c_M_load 112 = .ok (.ireturn, 1) := by decide +kernel
theorem dM_load_113 : decode c_M_load 113 = .ok (.iload_n 2, 1) := by decide +kernel
theorem dM_load_114 : decode c_M_load 114 = .ok (.ifCond .eq 13, 3) := by decide +kernel
theorem dM_load_117 : decode c_M_load 117 = .ok (.iload_n 1, 1) := by decide +kernel
theorem dM_load_118 : decode c_M_load 118 = .ok (.invokestatic 95, 3) := by decide +kernel
theorem dM_load_121 : decode c_M_load 121 = .ok (.bipush 32, 2) := by decide +kernel
theorem dM_load_123 : decode c_M_load 123 = .ok (.isub, 1) := by decide +kernel
theorem dM_load_124 : decode c_M_load 124 = .ok (.goto 4, 3) := by decide +kernel
theorem dM_load_127 : decode c_M_load 127 = .ok (.iconst 0, 1) := by decide +kernel
theorem dM_load_128 : decode c_M_load 128 = .ok (.istore_n 3, 1) := by decide +kernel
theorem dM_load_129 : decode c_M_load 129 = .ok (.iconst 0, 1) := by decide +kernel
theorem dM_load_130 : decode c_M_load 130 = .ok (.istore 4, 2) := by decide +kernel
theorem dM_load_132 : decode c_M_load 132 = .ok (.iload 4, 2) := by decide +kernel
theorem dM_load_134 : decode c_M_load 134 = .ok (.iload_n 1, 1) := by decide +kernel
theorem dM_load_135 : decode c_M_load 135 = .ok (.invokestatic 95, 3) := by decide +kernel
theorem dM_load_138 : decode c_M_load 138 = .ok (.if_icmp .ge 30, 3) := by decide +kernel
theorem dM_load_141 : decode c_M_load 141 = .ok (.aload_n 0, 1) := by decide +kernel
theorem dM_load_142 : decode c_M_load 142 = .ok (.getfield 21, 3) := by decide +kernel
theorem dM_load_145 : decode c_M_load 145 = .ok (.aload_n 0, 1) := by decide +kernel
theorem dM_load_146 : decode c_M_load 146 = .ok (.getfield 83, 3) := by decide +kernel
theorem dM_load_149 : decode c_M_load 149 = .ok (.aaload, 1) := by decide +kernel
theorem dM_load_150 : decode c_M_load 150 = .ok (.iload 4, 2) := by decide +kernel
theorem dM_load_152 : decode c_M_load 152 = .ok (.aload_n 0, 1) := by decide +kernel
theorem dM_load_153 : decode c_M_load 153 = .ok (.getfield 7, 3) := by decide +kernel
theorem dM_load_156 : decode c_M_load 156 = .ok (.iload_n 3, 1) := by decide +kernel
theorem dM_load_157 : decode c_M_load 157 = .ok (.iload 4, 2) := by decide +kernel
theorem dM_load_159 : decode c_M_load 159 = .ok (.iadd, 1) := by decide +kernel
theorem dM_load_160 : decode c_M_load 160 = .ok (.baload, 1) := by decide +kernel
theorem dM_load_161 : decode c_M_load 161 = .ok (.bastore, 1) := by decide +kernel
theorem dM_load_162 : decode c_M_load 162 = .ok (.iinc 4 1, 3) := by decide +kernel
theorem dM_load_165 : decode c_M_load 165 = .ok (.goto (-33), 3) := by decide +kernel
theorem dM_load_168 : decode c_M_load 168 = .ok (.iconst 0, 1) := by decide +kernel
theorem dM_load_169 : decode c_M_load 169 = .ok (.istore 4, 2) := by decide +kernel
theorem dM_load_171 : decode c_M_load 171 = .ok (.iload_n 2, 1) := by decide +kernel
theorem dM_load_172 : decode c_M_load 172 = .ok (.ifCond .eq 37, 3) := by decide +kernel
theorem dM_load_175 : decode c_M_load 175 = .ok (.iload 4, 2) := by decide +kernel
theorem dM_load_177 : decode c_M_load 177 = .ok (.aload_n 0, 1) := by decide +kernel
theorem dM_load_178 : decode c_M_load 178 = .ok (.getfield 70, 3) := by decide +kernel
theorem dM_load_181 : decode c_M_load 181 = .ok (.if_icmp .ge 28, 3) := by decide +kernel
theorem dM_load_184 : decode c_M_load 184 = .ok (.aload_n 0, 1) := by decide +kernel
theorem dM_load_185 : decode c_M_load 185 = .ok (.getfield 24, 3) := by decide +kernel
theorem dM_load_188 : decode c_M_load 188 = .ok (.aload_n 0, 1) := by decide +kernel
theorem dM_load_189 : decode c_M_load 189 = .ok (.getfield 83, 3) := by decide +kernel
theorem dM_load_192 : decode c_M_load 192 = .ok (.aaload, 1) := by decide +kernel
theorem dM_load_193 : decode c_M_load 193 = .ok (.iload 4, 2) := by decide +kernel
theorem dM_load_195 : decode c_M_load 195 = .ok (.aload_n 0, 1) := by decide +kernel
theorem dM_load_196 : decode c_M_load 196 = .ok (.getfield 7, 3) := by decide +kernel
theorem dM_load_199 : decode c_M_load 199 = .ok (.iload 4, 2) := by decide +kernel
theorem dM_load_201 : decode c_M_load 201 = .ok (.baload, 1) := by decide +kernel
theorem dM_load_202 : decode c_M_load 202 = .ok (.bastore, 1) := by decide +kernel
theorem dM_load_203 : decode c_M_load 203 = .ok (.iinc 4 1, 3) := by decide +kernel
theorem dM_load_206 : decode c_M_load 206 = .ok (.goto (-35), 3) := by decide +kernel
theorem dM_load_209 : decode c_M_load 209 = .ok (.aload_n 0, 1) := by decide +kernel
theorem dM_load_210 : decode c_M_load 210 = .ok (.iload_n 1, 1) := by decide +kernel
theorem dM_load_211 : decode c_M_load 211 = .ok (.iload_n 2, 1) := by decide +kernel
theorem dM_load_212 : decode c_M_load 212 = .ok (.ifCond .eq 10, 3) := by decide +kernel
theorem dM_load_215 : decode c_M_load 215 = .ok (.aload_n 0, 1) := by decide +kernel
theorem dM_load_216 : decode c_M_load 216 = .ok (.getfield 70, 3) := by decide +kernel
theorem dM_load_219 : decode c_M_load 219 = .ok (.goto 4, 3) := by decide +kernel
theorem dM_load_222 : decode c_M_load 222 = .ok (.iconst 0, 1) := by decide +kernel
theorem dM_load_223 : decode c_M_load 223 = .ok (.invokevirtual 91, 3) := by decide +kernel
theorem dM_load_226 : decode c_M_load 226 = .ok (.ireturn, 1) := by decide +kernel
abbrev c_M_part : ByteArray := prog_12_method_18_code
abbrev y_M_part : MethodName := ⟨"LatticeKeysModel", "part", "(IZI)I"⟩
abbrev w_M_part : List Cond := Cond.code y_M_part c_M_part 4 (some .int) :: WG
theorem dM_part_0 : decode c_M_part 0 = .ok (.aload_n 0, 1) := by decide +kernel
theorem dM_part_1 : decode c_M_part 1 = .ok (.iconst 0, 1) := by decide +kernel
theorem dM_part_2 : decode c_M_part 2 = .ok (.putfield 57, 3) := by decide +kernel
theorem dM_part_5 : decode c_M_part 5 = .ok (.aload_n 0, 1) := by decide +kernel
theorem dM_part_6 : decode c_M_part 6 = .ok (.iload_n 1, 1) := by decide +kernel
theorem dM_part_7 : decode c_M_part 7 = .ok (.invokevirtual 103, 3) := by decide +kernel
theorem dM_part_10 : decode c_M_part 10 = .ok (.ifCond .ne 12, 3) := by decide +kernel
theorem dM_part_13 : decode c_M_part 13 = .ok (.aload_n 0, 1) := by decide +kernel
theorem dM_part_14 : decode c_M_part 14 = .ok (.iload_n 1, 1) := by decide +kernel
theorem dM_part_15 : decode c_M_part 15 = .ok (.iload_n 2, 1) := by decide +kernel
theorem dM_part_16 : decode c_M_part 16 = .ok (.invokevirtual 107, 3) := by decide +kernel
theorem dM_part_19 : decode c_M_part 19 = .ok (.ifCond .ne 9, 3) := by decide +kernel
theorem dM_part_22 : decode c_M_part 22 = .ok (.aload_n 0, 1) := by decide +kernel
theorem dM_part_23 : decode c_M_part 23 = .ok (.iconst 1, 1) := by decide +kernel
theorem dM_part_24 : decode c_M_part 24 = .ok (.invokevirtual 73, 3) := by decide +kernel
theorem dM_part_27 : decode c_M_part 27 = .ok (.ireturn, 1) := by decide +kernel
theorem dM_part_28 : decode c_M_part 28 = .ok (.iload_n 3, 1) := by decide +kernel
theorem dM_part_29 : decode c_M_part 29 = .ok (.ifCond .lt 13, 3) := by decide +kernel
theorem dM_part_32 : decode c_M_part 32 = .ok (.iload_n 3, 1) := by decide +kernel
theorem dM_part_33 : decode c_M_part 33 = .ok (.aload_n 0, 1) := by decide +kernel
theorem dM_part_34 : decode c_M_part 34 = .ok (.iload_n 1, 1) := by decide +kernel
theorem dM_part_35 : decode c_M_part 35 = .ok (.iload_n 2, 1) := by decide +kernel
theorem dM_part_36 : decode c_M_part 36 = .ok (.invokevirtual 107, 3) := by decide +kernel
theorem dM_part_39 : decode c_M_part 39 = .ok (.if_icmp .lt 9, 3) := by decide +kernel
theorem dM_part_42 : decode c_M_part 42 = .ok (.aload_n 0, 1) := by decide +kernel
theorem dM_part_43 : decode c_M_part 43 = .ok (.iconst 2, 1) := by decide +kernel
theorem dM_part_44 : decode c_M_part 44 = .ok (.invokevirtual 73, 3) := by decide +kernel
theorem dM_part_47 : decode c_M_part 47 = .ok (.ireturn, 1) := by decide +kernel
theorem dM_part_48 : decode c_M_part 48 = .ok (.iload_n 2, 1) := by decide +kernel
theorem dM_part_49 : decode c_M_part 49 = .ok (.ifCond .eq 14, 3) := by decide +kernel
theorem dM_part_52 : decode c_M_part 52 = .ok (.aload_n 0, 1) := by decide +kernel
theorem dM_part_53 : decode c_M_part 53 = .ok (.getfield 24, 3) := by decide +kernel
theorem dM_part_56 : decode c_M_part 56 = .ok (.iload_n 1, 1) := by decide +kernel
theorem dM_part_57 : decode c_M_part 57 = .ok (.aaload, 1) := by decide +kernel
theorem dM_part_58 : decode c_M_part 58 = .ok (.iload_n 3, 1) := by decide +kernel
theorem dM_part_59 : decode c_M_part 59 = .ok (.baload, 1) := by decide +kernel
theorem dM_part_60 : decode c_M_part 60 = .ok (.goto 11, 3) := by decide +kernel
theorem dM_part_63 : decode c_M_part 63 = .ok (.aload_n 0, 1) := by decide +kernel
theorem dM_part_64 : decode c_M_part 64 = .ok (.getfield 21, 3) := by decide +kernel
theorem dM_part_67 : decode c_M_part 67 = .ok (.iload_n 1, 1) := by decide +kernel
theorem dM_part_68 : decode c_M_part 68 = .ok (.aaload, 1) := by decide +kernel
theorem dM_part_69 : decode c_M_part 69 = .ok (.iload_n 3, 1) := by decide +kernel
theorem dM_part_70 : decode c_M_part 70 = .ok (.baload, 1) := by decide +kernel
theorem dM_part_71 : decode c_M_part 71 = .ok (.sipush 255, 3) := by decide +kernel
theorem dM_part_74 : decode c_M_part 74 = .ok (.iand, 1) := by decide +kernel
theorem dM_part_75 : decode c_M_part 75 = .ok (.ireturn, 1) := by decide +kernel
abbrev c_M_show : ByteArray := prog_12_method_19_code
abbrev y_M_show : MethodName := ⟨"LatticeKeysModel", "show", "(IZ)I"⟩
abbrev w_M_show : List Cond := Cond.code y_M_show c_M_show 4 (some .int) :: WG
theorem dM_show_0 : decode c_M_show 0 = .ok (.aload_n 0, 1) := by decide +kernel
theorem dM_show_1 : decode c_M_show 1 = .ok (.iconst 0, 1) := by decide +kernel
theorem dM_show_2 : decode c_M_show 2 = .ok (.putfield 57, 3) := by decide +kernel
theorem dM_show_5 : decode c_M_show 5 = .ok (.aload_n 0, 1) := by decide +kernel
theorem dM_show_6 : decode c_M_show 6 = .ok (.iload_n 1, 1) := by decide +kernel
theorem dM_show_7 : decode c_M_show 7 = .ok (.invokevirtual 103, 3) := by decide +kernel
theorem dM_show_10 : decode c_M_show 10 = .ok (.ifCond .ne 12, 3) := by decide +kernel
theorem dM_show_13 : decode c_M_show 13 = .ok (.aload_n 0, 1) := by decide +kernel
theorem dM_show_14 : decode c_M_show 14 = .ok (.iload_n 1, 1) := by decide +kernel
theorem dM_show_15 : decode c_M_show 15 = .ok (.iload_n 2, 1) := by decide +kernel
theorem dM_show_16 : decode c_M_show 16 = .ok (.invokevirtual 107, 3) := by decide +kernel
theorem dM_show_19 : decode c_M_show 19 = .ok (.ifCond .ne 9, 3) := by decide +kernel
theorem dM_show_22 : decode c_M_show 22 = .ok (.aload_n 0, 1) := by decide +kernel
theorem dM_show_23 : decode c_M_show 23 = .ok (.iconst 1, 1) := by decide +kernel
theorem dM_show_24 : decode c_M_show 24 = .ok (.invokevirtual 73, 3) := by decide +kernel
theorem dM_show_27 : decode c_M_show 27 = .ok (.ireturn, 1) := by decide +kernel
theorem dM_show_28 : decode c_M_show 28 = .ok (.aload_n 0, 1) := by decide +kernel
theorem dM_show_29 : decode c_M_show 29 = .ok (.aload_n 0, 1) := by decide +kernel
theorem dM_show_30 : decode c_M_show 30 = .ok (.iload_n 1, 1) := by decide +kernel
theorem dM_show_31 : decode c_M_show 31 = .ok (.iload_n 2, 1) := by decide +kernel
theorem dM_show_32 : decode c_M_show 32 = .ok (.invokevirtual 107, 3) := by decide +kernel
theorem dM_show_35 : decode c_M_show 35 = .ok (.putfield 80, 3) := by decide +kernel
theorem dM_show_38 : decode c_M_show 38 = .ok (.iconst 0, 1) := by decide +kernel
theorem dM_show_39 : decode c_M_show 39 = .ok (.istore_n 3, 1) := by decide +kernel
theorem dM_show_40 : decode c_M_show 40 = .ok (.iload_n 3, 1) := by decide +kernel
theorem dM_show_41 : decode c_M_show 41 = .ok (.aload_n 0, 1) := by decide +kernel
theorem dM_show_42 : decode c_M_show 42 = .ok (.getfield 80, 3) := by decide +kernel
theorem dM_show_45 : decode c_M_show 45 = .ok (.if_icmp .ge 38, 3) := by decide +kernel
theorem dM_show_48 : decode c_M_show 48 = .ok (.aload_n 0, 1) := by decide +kernel
theorem dM_show_49 : decode c_M_show 49 = .ok (.getfield 13, 3) := by decide +kernel
theorem dM_show_52 : decode c_M_show 52 = .ok (.iload_n 3, 1) := by decide +kernel
theorem dM_show_53 : decode c_M_show 53 = .ok (.iload_n 2, 1) := by decide +kernel
theorem dM_show_54 : decode c_M_show 54 = .ok (.ifCond .eq 14, 3) := by decide +kernel
theorem dM_show_57 : decode c_M_show 57 = .ok (.aload_n 0, 1) := by decide +kernel
theorem dM_show_58 : decode c_M_show 58 = .ok (.getfield 24, 3) := by decide +kernel
theorem dM_show_61 : decode c_M_show 61 = .ok (.iload_n 1, 1) := by decide +kernel
theorem dM_show_62 : decode c_M_show 62 = .ok (.aaload, 1) := by decide +kernel
theorem dM_show_63 : decode c_M_show 63 = .ok (.iload_n 3, 1) := by decide +kernel
theorem dM_show_64 : decode c_M_show 64 = .ok (.baload, 1) := by decide +kernel
theorem dM_show_65 : decode c_M_show 65 = .ok (.goto 11, 3) := by decide +kernel
theorem dM_show_68 : decode c_M_show 68 = .ok (.aload_n 0, 1) := by decide +kernel
theorem dM_show_69 : decode c_M_show 69 = .ok (.getfield 21, 3) := by decide +kernel
theorem dM_show_72 : decode c_M_show 72 = .ok (.iload_n 1, 1) := by decide +kernel
theorem dM_show_73 : decode c_M_show 73 = .ok (.aaload, 1) := by decide +kernel
theorem dM_show_74 : decode c_M_show 74 = .ok (.iload_n 3, 1) := by decide +kernel
theorem dM_show_75 : decode c_M_show 75 = .ok (.baload, 1) := by decide +kernel
theorem dM_show_76 : decode c_M_show 76 = .ok (.bastore, 1) := by decide +kernel
theorem dM_show_77 : decode c_M_show 77 = .ok (.iinc 3 1, 3) := by decide +kernel
theorem dM_show_80 : decode c_M_show 80 = .ok (.goto (-40), 3) := by decide +kernel
theorem dM_show_83 : decode c_M_show 83 = .ok (.aload_n 0, 1) := by decide +kernel
theorem dM_show_84 : decode c_M_show 84 = .ok (.getfield 80, 3) := by decide +kernel
theorem dM_show_87 : decode c_M_show 87 = .ok (.ireturn, 1) := by decide +kernel
abbrev c_M_told : ByteArray := prog_12_method_20_code
abbrev y_M_told : MethodName := ⟨"LatticeKeysModel", "told", "(II)I"⟩
abbrev w_M_told : List Cond := Cond.code y_M_told c_M_told 3 (some .int) :: WG
theorem dM_told_0 : decode c_M_told 0 = .ok (.aload_n 0, 1) := by decide +kernel
theorem dM_told_1 : decode c_M_told 1 = .ok (.iconst 0, 1) := by decide +kernel
theorem dM_told_2 : decode c_M_told 2 = .ok (.putfield 57, 3) := by decide +kernel
theorem dM_told_5 : decode c_M_told 5 = .ok (.aload_n 0, 1) := by decide +kernel
theorem dM_told_6 : decode c_M_told 6 = .ok (.iload_n 1, 1) := by decide +kernel
theorem dM_told_7 : decode c_M_told 7 = .ok (.invokevirtual 103, 3) := by decide +kernel
theorem dM_told_10 : decode c_M_told 10 = .ok (.ifCond .eq 9, 3) := by decide +kernel
theorem dM_told_13 : decode c_M_told 13 = .ok (.aload_n 0, 1) := by decide +kernel
theorem dM_told_14 : decode c_M_told 14 = .ok (.iconst 1, 1) := by decide +kernel
theorem dM_told_15 : decode c_M_told 15 = .ok (.invokevirtual 73, 3) := by decide +kernel
theorem dM_told_18 : decode c_M_told 18 = .ok (.ireturn, 1) := by decide +kernel
theorem dM_told_19 : decode c_M_told 19 = .ok (.iload_n 2, 1) := by decide +kernel
theorem dM_told_20 : decode c_M_told 20 = .ok (.tableswitch 49 0 2 #[28, 35, 42], 28) := by decide +kernel
theorem dM_told_48 : decode c_M_told 48 = .ok (.aload_n 0, 1) := by decide +kernel
theorem dM_told_49 : decode c_M_told 49 = .ok (.getfield 27, 3) := by decide +kernel
theorem dM_told_52 : decode c_M_told 52 = .ok (.iload_n 1, 1) := by decide +kernel
theorem dM_told_53 : decode c_M_told 53 = .ok (.iaload, 1) := by decide +kernel
theorem dM_told_54 : decode c_M_told 54 = .ok (.ireturn, 1) := by decide +kernel
theorem dM_told_55 : decode c_M_told 55 = .ok (.aload_n 0, 1) := by decide +kernel
theorem dM_told_56 : decode c_M_told 56 = .ok (.iload_n 1, 1) := by decide +kernel
theorem dM_told_57 : decode c_M_told 57 = .ok (.iconst 0, 1) := by decide +kernel
theorem dM_told_58 : decode c_M_told 58 = .ok (.invokevirtual 107, 3) := by decide +kernel
theorem dM_told_61 : decode c_M_told 61 = .ok (.ireturn, 1) := by decide +kernel
theorem dM_told_62 : decode c_M_told 62 = .ok (.aload_n 0, 1) := by decide +kernel
theorem dM_told_63 : decode c_M_told 63 = .ok (.iload_n 1, 1) := by decide +kernel
theorem dM_told_64 : decode c_M_told 64 = .ok (.iconst 1, 1) := by decide +kernel
theorem dM_told_65 : decode c_M_told 65 = .ok (.invokevirtual 107, 3) := by decide +kernel
theorem dM_told_68 : decode c_M_told 68 = .ok (.ireturn, 1) := by decide +kernel
theorem dM_told_69 : decode c_M_told 69 = .ok (.aload_n 0, 1) := by decide +kernel
theorem dM_told_70 : decode c_M_told 70 = .ok (.iconst 2, 1) := by decide +kernel
theorem dM_told_71 : decode c_M_told 71 = .ok (.invokevirtual 73, 3) := by decide +kernel
theorem dM_told_74 : decode c_M_told 74 = .ok (.ireturn, 1) := by decide +kernel
abbrev c_M_seal : ByteArray := prog_12_method_21_code
abbrev y_M_seal : MethodName := ⟨"LatticeKeysModel", "seal", "(I)I"⟩
abbrev w_M_seal : List Cond := Cond.code y_M_seal c_M_seal 2 (some .int) :: WG
theorem dM_seal_0 : decode c_M_seal 0 = .ok (.aload_n 0, 1) := by decide +kernel
theorem dM_seal_1 : decode c_M_seal 1 = .ok (.iconst 0, 1) := by decide +kernel
theorem dM_seal_2 : decode c_M_seal 2 = .ok (.putfield 57, 3) := by decide +kernel
theorem dM_seal_5 : decode c_M_seal 5 = .ok (.aload_n 0, 1) := by decide +kernel
theorem dM_seal_6 : decode c_M_seal 6 = .ok (.iload_n 1, 1) := by decide +kernel
theorem dM_seal_7 : decode c_M_seal 7 = .ok (.invokevirtual 103, 3) := by decide +kernel
theorem dM_seal_10 : decode c_M_seal 10 = .ok (.ifCond .ne 13, 3) := by decide +kernel
theorem dM_seal_13 : decode c_M_seal 13 = .ok (.aload_n 0, 1) := by decide +kernel
theorem dM_seal_14 : decode c_M_seal 14 = .ok (.getfield 27, 3) := by decide +kernel
theorem dM_seal_17 : decode c_M_seal 17 = .ok (.iload_n 1, 1) := by decide +kernel
theorem dM_seal_18 : decode c_M_seal 18 = .ok (.iaload, 1) := by decide +kernel
theorem dM_seal_19 : decode c_M_seal 19 = .ok (.iconst 2, 1) := by decide +kernel
theorem dM_seal_20 : decode c_M_seal 20 = .ok (.if_icmp .le 9, 3) := by decide +kernel
theorem dM_seal_23 : decode c_M_seal 23 = .ok (.aload_n 0, 1) := by decide +kernel
theorem dM_seal_24 : decode c_M_seal 24 = .ok (.iconst 1, 1) := by decide +kernel
theorem dM_seal_25 : decode c_M_seal 25 = .ok (.invokevirtual 73, 3) := by decide +kernel
theorem dM_seal_28 : decode c_M_seal 28 = .ok (.ireturn, 1) := by decide +kernel
theorem dM_seal_29 : decode c_M_seal 29 = .ok (.aload_n 0, 1) := by decide +kernel
theorem dM_seal_30 : decode c_M_seal 30 = .ok (.getfield 70, 3) := by decide +kernel
theorem dM_seal_33 : decode c_M_seal 33 = .ok (.bipush 32, 2) := by decide +kernel
theorem dM_seal_35 : decode c_M_seal 35 = .ok (.if_icmp .eq 9, 3) := by decide +kernel
theorem dM_seal_38 : decode c_M_seal 38 = .ok (.aload_n 0, 1) := by decide +kernel
theorem dM_seal_39 : decode c_M_seal 39 = .ok (.iconst 2, 1) := by decide +kernel
theorem dM_seal_40 : decode c_M_seal 40 = .ok (.invokevirtual 73, 3) := by decide +kernel
theorem dM_seal_43 : decode c_M_seal 43 = .ok (.ireturn, 1) := by decide +kernel
theorem dM_seal_44 : decode c_M_seal 44 = .ok (.aload_n 0, 1) := by decide +kernel
theorem dM_seal_45 : decode c_M_seal 45 = .ok (.iconst 0, 1) := by decide +kernel
theorem dM_seal_46 : decode c_M_seal 46 = .ok (.putfield 70, 3) := by decide +kernel
theorem dM_seal_49 : decode c_M_seal 49 = .ok (.aload_n 0, 1) := by decide +kernel
theorem dM_seal_50 : decode c_M_seal 50 = .ok (.aload_n 0, 1) := by decide +kernel
theorem dM_seal_51 : decode c_M_seal 51 = .ok (.getfield 46, 3) := by decide +kernel
theorem dM_seal_54 : decode c_M_seal 54 = .ok (.aload_n 0, 1) := by decide +kernel
theorem dM_seal_55 : decode c_M_seal 55 = .ok (.getfield 27, 3) := by decide +kernel
theorem dM_seal_58 : decode c_M_seal 58 = .ok (.iload_n 1, 1) := by decide +kernel
theorem dM_seal_59 : decode c_M_seal 59 = .ok (.iaload, 1) := by decide +kernel
theorem dM_seal_60 : decode c_M_seal 60 = .ok (.aload_n 0, 1) := by decide +kernel
theorem dM_seal_61 : decode c_M_seal 61 = .ok (.getfield 21, 3) := by decide +kernel
theorem dM_seal_64 : decode c_M_seal 64 = .ok (.iload_n 1, 1) := by decide +kernel
theorem dM_seal_65 : decode c_M_seal 65 = .ok (.aaload, 1) := by decide +kernel
theorem dM_seal_66 : decode c_M_seal 66 = .ok (.aload_n 0, 1) := by decide +kernel
theorem dM_seal_67 : decode c_M_seal 67 = .ok (.getfield 7, 3) := by decide +kernel
theorem dM_seal_70 : decode c_M_seal 70 = .ok (.aload_n 0, 1) := by decide +kernel
theorem dM_seal_71 : decode c_M_seal 71 = .ok (.getfield 13, 3) := by decide +kernel
theorem dM_seal_74 : decode c_M_seal 74 = .ok (.invokevirtual 111, 3) := by decide +kernel
theorem dM_seal_77 : decode c_M_seal 77 = .ok (.putfield 80, 3) := by decide +kernel
theorem dM_seal_80 : decode c_M_seal 80 = .ok (.aload_n 0, 1) := by decide +kernel
theorem dM_seal_81 : decode c_M_seal 81 = .ok (.getfield 80, 3) := by decide +kernel
theorem dM_seal_84 : decode c_M_seal 84 = .ok (.ireturn, 1) := by decide +kernel
abbrev c_M_open : ByteArray := prog_12_method_22_code
abbrev y_M_open : MethodName := ⟨"LatticeKeysModel", "open", "(I)I"⟩
abbrev w_M_open : List Cond := Cond.code y_M_open c_M_open 2 (some .int) :: WG
theorem dM_open_0 : decode c_M_open 0 = .ok (.aload_n 0, 1) := by decide +kernel
theorem dM_open_1 : decode c_M_open 1 = .ok (.iconst 0, 1) := by decide +kernel
theorem dM_open_2 : decode c_M_open 2 = .ok (.putfield 57, 3) := by decide +kernel
theorem dM_open_5 : decode c_M_open 5 = .ok (.aload_n 0, 1) := by decide +kernel
theorem dM_open_6 : decode c_M_open 6 = .ok (.iload_n 1, 1) := by decide +kernel
theorem dM_open_7 : decode c_M_open 7 = .ok (.invokevirtual 103, 3) := by decide +kernel
theorem dM_open_10 : decode c_M_open 10 = .ok (.ifCond .ne 22, 3) := by decide +kernel
theorem dM_open_13 : decode c_M_open 13 = .ok (.aload_n 0, 1) := by decide +kernel
theorem dM_open_14 : decode c_M_open 14 = .ok (.getfield 27, 3) := by decide +kernel
theorem dM_open_17 : decode c_M_open 17 = .ok (.iload_n 1, 1) := by decide +kernel
theorem dM_open_18 : decode c_M_open 18 = .ok (.iaload, 1) := by decide +kernel
theorem dM_open_19 : decode c_M_open 19 = .ok (.iconst 2, 1) := by decide +kernel
theorem dM_open_20 : decode c_M_open 20 = .ok (.if_icmp .gt 12, 3) := by decide +kernel
theorem dM_open_23 : decode c_M_open 23 = .ok (.aload_n 0, 1) := by decide +kernel
theorem dM_open_24 : decode c_M_open 24 = .ok (.getfield 31, 3) := by decide +kernel
theorem dM_open_27 : decode c_M_open 27 = .ok (.iload_n 1, 1) := by decide +kernel
theorem dM_open_28 : decode c_M_open 28 = .ok (.iaload, 1) := by decide +kernel
theorem dM_open_29 : decode c_M_open 29 = .ok (.ifCond .ne 9, 3) := by decide +kernel
theorem dM_open_32 : decode c_M_open 32 = .ok (.aload_n 0, 1) := by decide +kernel
theorem dM_open_33 : decode c_M_open 33 = .ok (.iconst 1, 1) := by decide +kernel
theorem dM_open_34 : decode c_M_open 34 = .ok (.invokevirtual 73, 3) := by decide +kernel
theorem dM_open_37 : decode c_M_open 37 = .ok (.ireturn, 1) := by decide +kernel
theorem dM_open_38 : decode c_M_open 38 = .ok (.aload_n 0, 1) := by decide +kernel
theorem dM_open_39 : decode c_M_open 39 = .ok (.getfield 70, 3) := by decide +kernel
theorem dM_open_42 : decode c_M_open 42 = .ok (.aload_n 0, 1) := by decide +kernel
theorem dM_open_43 : decode c_M_open 43 = .ok (.getfield 27, 3) := by decide +kernel
theorem dM_open_46 : decode c_M_open 46 = .ok (.iload_n 1, 1) := by decide +kernel
theorem dM_open_47 : decode c_M_open 47 = .ok (.iaload, 1) := by decide +kernel
theorem dM_open_48 : decode c_M_open 48 = .ok (.invokestatic 115, 3) := by decide +kernel
theorem dM_open_51 : decode c_M_open 51 = .ok (.if_icmp .eq 9, 3) := by decide +kernel
theorem dM_open_54 : decode c_M_open 54 = .ok (.aload_n 0, 1) := by decide +kernel
theorem dM_open_55 : decode c_M_open 55 = .ok (.iconst 2, 1) := by decide +kernel
theorem dM_open_56 : decode c_M_open 56 = .ok (.invokevirtual 73, 3) := by decide +kernel
theorem dM_open_59 : decode c_M_open 59 = .ok (.ireturn, 1) := by decide +kernel
theorem dM_open_60 : decode c_M_open 60 = .ok (.aload_n 0, 1) := by decide +kernel
theorem dM_open_61 : decode c_M_open 61 = .ok (.iconst 0, 1) := by decide +kernel
theorem dM_open_62 : decode c_M_open 62 = .ok (.putfield 70, 3) := by decide +kernel
theorem dM_open_65 : decode c_M_open 65 = .ok (.aload_n 0, 1) := by decide +kernel
theorem dM_open_66 : decode c_M_open 66 = .ok (.bipush 32, 2) := by decide +kernel
theorem dM_open_68 : decode c_M_open 68 = .ok (.putfield 80, 3) := by decide +kernel
theorem dM_open_71 : decode c_M_open 71 = .ok (.aload_n 0, 1) := by decide +kernel
theorem dM_open_72 : decode c_M_open 72 = .ok (.getfield 46, 3) := by decide +kernel
theorem dM_open_75 : decode c_M_open 75 = .ok (.aload_n 0, 1) := by decide +kernel
theorem dM_open_76 : decode c_M_open 76 = .ok (.getfield 27, 3) := by decide +kernel
theorem dM_open_79 : decode c_M_open 79 = .ok (.iload_n 1, 1) := by decide +kernel
theorem dM_open_80 : decode c_M_open 80 = .ok (.iaload, 1) := by decide +kernel
theorem dM_open_81 : decode c_M_open 81 = .ok (.aload_n 0, 1) := by decide +kernel
theorem dM_open_82 : decode c_M_open 82 = .ok (.getfield 24, 3) := by decide +kernel
theorem dM_open_85 : decode c_M_open 85 = .ok (.iload_n 1, 1) := by decide +kernel
theorem dM_open_86 : decode c_M_open 86 = .ok (.aaload, 1) := by decide +kernel
theorem dM_open_87 : decode c_M_open 87 = .ok (.aload_n 0, 1) := by decide +kernel
theorem dM_open_88 : decode c_M_open 88 = .ok (.getfield 7, 3) := by decide +kernel
theorem dM_open_91 : decode c_M_open 91 = .ok (.aload_n 0, 1) := by decide +kernel
theorem dM_open_92 : decode c_M_open 92 = .ok (.getfield 13, 3) := by decide +kernel
theorem dM_open_95 : decode c_M_open 95 = .ok (.invokevirtual 118, 3) := by decide +kernel
theorem dM_open_98 : decode c_M_open 98 = .ok (.aload_n 0, 1) := by decide +kernel
theorem dM_open_99 : decode c_M_open 99 = .ok (.getfield 80, 3) := by decide +kernel
theorem dM_open_102 : decode c_M_open 102 = .ok (.ireturn, 1) := by decide +kernel
abbrev c_M_sign : ByteArray := prog_12_method_23_code
abbrev y_M_sign : MethodName := ⟨"LatticeKeysModel", "sign", "(II)I"⟩
abbrev w_M_sign : List Cond := Cond.code y_M_sign c_M_sign 5 (some .int) :: WG
theorem dM_sign_0 : decode c_M_sign 0 = .ok (.aload_n 0, 1) := by decide +kernel
theorem dM_sign_1 : decode c_M_sign 1 = .ok (.iconst 0, 1) := by decide +kernel
theorem dM_sign_2 : decode c_M_sign 2 = .ok (.putfield 57, 3) := by decide +kernel
theorem dM_sign_5 : decode c_M_sign 5 = .ok (.aload_n 0, 1) := by decide +kernel
theorem dM_sign_6 : decode c_M_sign 6 = .ok (.iload_n 1, 1) := by decide +kernel
theorem dM_sign_7 : decode c_M_sign 7 = .ok (.invokevirtual 103, 3) := by decide +kernel
theorem dM_sign_10 : decode c_M_sign 10 = .ok (.ifCond .ne 22, 3) := by decide +kernel
theorem dM_sign_13 : decode c_M_sign 13 = .ok (.aload_n 0, 1) := by decide +kernel
theorem dM_sign_14 : decode c_M_sign 14 = .ok (.getfield 27, 3) := by decide +kernel
theorem dM_sign_17 : decode c_M_sign 17 = .ok (.iload_n 1, 1) := by decide +kernel
theorem dM_sign_18 : decode c_M_sign 18 = .ok (.iaload, 1) := by decide +kernel
theorem dM_sign_19 : decode c_M_sign 19 = .ok (.iconst 3, 1) := by decide +kernel
theorem dM_sign_20 : decode c_M_sign 20 = .ok (.if_icmp .lt 12, 3) := by decide +kernel
theorem dM_sign_23 : decode c_M_sign 23 = .ok (.aload_n 0, 1) := by decide +kernel
theorem dM_sign_24 : decode c_M_sign 24 = .ok (.getfield 31, 3) := by decide +kernel
theorem dM_sign_27 : decode c_M_sign 27 = .ok (.iload_n 1, 1) := by decide +kernel
theorem dM_sign_28 : decode c_M_sign 28 = .ok (.iaload, 1) := by decide +kernel
theorem dM_sign_29 : decode c_M_sign 29 = .ok (.ifCond .ne 9, 3) := by decide +kernel
theorem dM_sign_32 : decode c_M_sign 32 = .ok (.aload_n 0, 1) := by decide +kernel
theorem dM_sign_33 : decode c_M_sign 33 = .ok (.iconst 1, 1) := by decide +kernel
theorem dM_sign_34 : decode c_M_sign 34 = .ok (.invokevirtual 73, 3) := by decide +kernel
theorem dM_sign_37 : decode c_M_sign 37 = .ok (.ireturn, 1) := by decide +kernel
theorem dM_sign_38 : decode c_M_sign 38 = .ok (.iload_n 2, 1) := by decide +kernel
theorem dM_sign_39 : decode c_M_sign 39 = .ok (.ifCond .lt 21, 3) := by decide +kernel
theorem dM_sign_42 : decode c_M_sign 42 = .ok (.iload_n 2, 1) := by decide +kernel
theorem dM_sign_43 : decode c_M_sign 43 = .ok (.sipush 255, 3) := by decide +kernel
theorem dM_sign_46 : decode c_M_sign 46 = .ok (.if_icmp .gt 14, 3) := by decide +kernel
theorem dM_sign_49 : decode c_M_sign 49 = .ok (.aload_n 0, 1) := by decide +kernel
theorem dM_sign_50 : decode c_M_sign 50 = .ok (.getfield 70, 3) := by decide +kernel
theorem dM_sign_53 : decode c_M_sign 53 = .ok (.bipush 32, 2) := by decide +kernel
theorem dM_sign_55 : decode c_M_sign 55 = .ok (.iload_n 2, 1) := by decide +kernel
theorem dM_sign_56 : decode c_M_sign 56 = .ok (.iadd, 1) := by decide +kernel
theorem dM_sign_57 : decode c_M_sign 57 = .ok (.if_icmp .ge 9, 3) := by decide +kernel
theorem dM_sign_60 : decode c_M_sign 60 = .ok (.aload_n 0, 1) := by decide +kernel
theorem dM_sign_61 : decode c_M_sign 61 = .ok (.iconst 2, 1) := by decide +kernel
theorem dM_sign_62 : decode c_M_sign 62 = .ok (.invokevirtual 73, 3) := by decide +kernel
theorem dM_sign_65 : decode c_M_sign 65 = .ok (.ireturn, 1) := by decide +kernel
theorem dM_sign_66 : decode c_M_sign 66 = .ok (.aload_n 0, 1) := by decide +kernel
theorem dM_sign_67 : decode c_M_sign 67 = .ok (.getfield 53, 3) := by decide +kernel
theorem dM_sign_70 : decode c_M_sign 70 = .ok (.aload_n 0, 1) := by decide +kernel
theorem dM_sign_71 : decode c_M_sign 71 = .ok (.getfield 27, 3) := by decide +kernel
theorem dM_sign_74 : decode c_M_sign 74 = .ok (.iload_n 1, 1) := by decide +kernel
theorem dM_sign_75 : decode c_M_sign 75 = .ok (.iaload, 1) := by decide +kernel
theorem dM_sign_76 : decode c_M_sign 76 = .ok (.iconst 3, 1) := by decide +kernel
theorem dM_sign_77 : decode c_M_sign 77 = .ok (.isub, 1) := by decide +kernel
theorem dM_sign_78 : decode c_M_sign 78 = .ok (.aload_n 0, 1) := by decide +kernel
theorem dM_sign_79 : decode c_M_sign 79 = .ok (.getfield 24, 3) := by decide +kernel
theorem dM_sign_82 : decode c_M_sign 82 = .ok (.iload_n 1, 1) := by decide +kernel
theorem dM_sign_83 : decode c_M_sign 83 = .ok (.aaload, 1) := by decide +kernel
theorem dM_sign_84 : decode c_M_sign 84 = .ok (.aload_n 0, 1) := by decide +kernel
theorem dM_sign_85 : decode c_M_sign 85 = .ok (.getfield 7, 3) := by decide +kernel
theorem dM_sign_88 : decode c_M_sign 88 = .ok (.iload_n 2, 1) := by decide +kernel
theorem dM_sign_89 : decode c_M_sign 89 = .ok (.aload_n 0, 1) := by decide +kernel
theorem dM_sign_90 : decode c_M_sign 90 = .ok (.getfield 70, 3) := by decide +kernel
theorem dM_sign_93 : decode c_M_sign 93 = .ok (.aload_n 0, 1) := by decide +kernel
theorem dM_sign_94 : decode c_M_sign 94 = .ok (.getfield 16, 3) := by decide +kernel
theorem dM_sign_97 : decode c_M_sign 97 = .ok (.invokevirtual 120, 3) := by decide +kernel
theorem dM_sign_100 : decode c_M_sign 100 = .ok (.istore_n 3, 1) := by decide +kernel
theorem dM_sign_101 : decode c_M_sign 101 = .ok (.iload_n 3, 1) := by decide +kernel
theorem dM_sign_102 : decode c_M_sign 102 = .ok (.ifCond .ne 9, 3) := by decide +kernel
theorem dM_sign_105 : decode c_M_sign 105 = .ok (.aload_n 0, 1) := by decide +kernel
theorem dM_sign_106 : decode c_M_sign 106 = .ok (.iconst 3, 1) := by decide +kernel
theorem dM_sign_107 : decode c_M_sign 107 = .ok (.invokevirtual 73, 3) := by decide +kernel
theorem dM_sign_110 : decode c_M_sign 110 = .ok (.ireturn, 1) := by decide +kernel
theorem dM_sign_111 : decode c_M_sign 111 = .ok (.aload_n 0, 1) := by decide +kernel
theorem dM_sign_112 : decode c_M_sign 112 = .ok (.aload_n 0, 1) := by decide +kernel
theorem dM_sign_113 : decode c_M_sign 113 = .ok (.getfield 27, 3) := by decide +kernel
theorem dM_sign_116 : decode c_M_sign 116 = .ok (.iload_n 1, 1) := by decide +kernel
theorem dM_sign_117 : decode c_M_sign 117 = .ok (.iaload, 1) := by decide +kernel
theorem dM_sign_118 : decode c_M_sign 118 = .ok (.iconst 3, 1) := by decide +kernel
theorem dM_sign_119 : decode c_M_sign 119 = .ok (.isub, 1) := by decide +kernel
theorem dM_sign_120 : decode c_M_sign 120 = .ok (.invokestatic 124, 3) := by decide +kernel
theorem dM_sign_123 : decode c_M_sign 123 = .ok (.putfield 80, 3) := by decide +kernel
theorem dM_sign_126 : decode c_M_sign 126 = .ok (.iconst 0, 1) := by decide +kernel
theorem dM_sign_127 : decode c_M_sign 127 = .ok (.istore 4, 2) := by decide +kernel
theorem dM_sign_129 : decode c_M_sign 129 = .ok (.iload 4, 2) := by decide +kernel
theorem dM_sign_131 : decode c_M_sign 131 = .ok (.aload_n 0, 1) := by decide +kernel
theorem dM_sign_132 : decode c_M_sign 132 = .ok (.getfield 80, 3) := by decide +kernel
theorem dM_sign_135 : decode c_M_sign 135 = .ok (.if_icmp .ge 23, 3) := by decide +kernel
theorem dM_sign_138 : decode c_M_sign 138 = .ok (.aload_n 0, 1) := by decide +kernel
theorem dM_sign_139 : decode c_M_sign 139 = .ok (.getfield 13, 3) := by decide +kernel
theorem dM_sign_142 : decode c_M_sign 142 = .ok (.iload 4, 2) := by decide +kernel
theorem dM_sign_144 : decode c_M_sign 144 = .ok (.aload_n 0, 1) := by decide +kernel
theorem dM_sign_145 : decode c_M_sign 145 = .ok (.getfield 16, 3) := by decide +kernel
theorem dM_sign_148 : decode c_M_sign 148 = .ok (.iload 4, 2) := by decide +kernel
theorem dM_sign_150 : decode c_M_sign 150 = .ok (.baload, 1) := by decide +kernel
theorem dM_sign_151 : decode c_M_sign 151 = .ok (.bastore, 1) := by decide +kernel
theorem dM_sign_152 : decode c_M_sign 152 = .ok (.iinc 4 1, 3) := by decide +kernel
theorem dM_sign_155 : decode c_M_sign 155 = .ok (.goto (-26), 3) := by decide +kernel
theorem dM_sign_158 : decode c_M_sign 158 = .ok (.aload_n 0, 1) := by decide +kernel
theorem dM_sign_159 : decode c_M_sign 159 = .ok (.iconst 0, 1) := by decide +kernel
theorem dM_sign_160 : decode c_M_sign 160 = .ok (.putfield 70, 3) := by decide +kernel
theorem dM_sign_163 : decode c_M_sign 163 = .ok (.iload_n 3, 1) := by decide +kernel
theorem dM_sign_164 : decode c_M_sign 164 = .ok (.ireturn, 1) := by decide +kernel
abbrev c_M_verify : ByteArray := prog_12_method_24_code
abbrev y_M_verify : MethodName := ⟨"LatticeKeysModel", "verify", "(II)Z"⟩
abbrev w_M_verify : List Cond := Cond.code y_M_verify c_M_verify 4 (some .boolean) :: WG
theorem dM_verify_0 : decode c_M_verify 0 = .ok (.aload_n 0, 1) := by decide +kernel
theorem dM_verify_1 : decode c_M_verify 1 = .ok (.aload_n 0, 1) := by decide +kernel
theorem dM_verify_2 : decode c_M_verify 2 = .ok (.iload_n 1, 1) := by decide +kernel
theorem dM_verify_3 : decode c_M_verify 3 = .ok (.invokevirtual 103, 3) := by decide +kernel
theorem dM_verify_6 : decode c_M_verify 6 = .ok (.ifCond .ne 13, 3) := by decide +kernel
theorem dM_verify_9 : decode c_M_verify 9 = .ok (.aload_n 0, 1) := by decide +kernel
theorem dM_verify_10 : decode c_M_verify 10 = .ok (.getfield 27, 3) := by decide +kernel
theorem dM_verify_13 : decode c_M_verify 13 = .ok (.iload_n 1, 1) := by decide +kernel
theorem dM_verify_14 : decode c_M_verify 14 = .ok (.iaload, 1) := by decide +kernel
theorem dM_verify_15 : decode c_M_verify 15 = .ok (.iconst 3, 1) := by decide +kernel
theorem dM_verify_16 : decode c_M_verify 16 = .ok (.if_icmp .ge 7, 3) := by decide +kernel
theorem dM_verify_19 : decode c_M_verify 19 = .ok (.iconst 1, 1) := by decide +kernel
theorem dM_verify_20 : decode c_M_verify 20 = .ok (.goto 39, 3) := by decide +kernel
theorem dM_verify_23 : decode c_M_verify 23 = .ok (.iload_n 2, 1) := by decide +kernel
theorem dM_verify_24 : decode c_M_verify 24 = .ok (.ifCond .lt 30, 3) := by decide +kernel
theorem dM_verify_27 : decode c_M_verify 27 = .ok (.iload_n 2, 1) := by decide +kernel
theorem dM_verify_28 : decode c_M_verify 28 = .ok (.sipush 255, 3) := by decide +kernel
theorem dM_verify_31 : decode c_M_verify 31 = .ok (.if_icmp .gt 23, 3) := by decide +kernel
theorem dM_verify_34 : decode c_M_verify 34 = .ok (.aload_n 0, 1) := by decide +kernel
theorem dM_verify_35 : decode c_M_verify 35 = .ok (.getfield 70, 3) := by decide +kernel
theorem dM_verify_38 : decode c_M_verify 38 = .ok (.aload_n 0, 1) := by decide +kernel
theorem dM_verify_39 : decode c_M_verify 39 = .ok (.getfield 27, 3) := by decide +kernel
theorem dM_verify_42 : decode c_M_verify 42 = .ok (.iload_n 1, 1) := by decide +kernel
theorem dM_verify_43 : decode c_M_verify 43 = .ok (.iaload, 1) := by decide +kernel
theorem dM_verify_44 : decode c_M_verify 44 = .ok (.iconst 3, 1) := by decide +kernel
theorem dM_verify_45 : decode c_M_verify 45 = .ok (.isub, 1) := by decide +kernel
theorem dM_verify_46 : decode c_M_verify 46 = .ok (.invokestatic 124, 3) := by decide +kernel
theorem dM_verify_49 : decode c_M_verify 49 = .ok (.iload_n 2, 1) := by decide +kernel
theorem dM_verify_50 : decode c_M_verify 50 = .ok (.iadd, 1) := by decide +kernel
theorem dM_verify_51 : decode c_M_verify 51 = .ok (.if_icmp .ge 7, 3) := by decide +kernel
theorem dM_verify_54 : decode c_M_verify 54 = .ok (.iconst 2, 1) := by decide +kernel
theorem dM_verify_55 : decode c_M_verify 55 = .ok (.goto 4, 3) := by decide +kernel
theorem dM_verify_58 : decode c_M_verify 58 = .ok (.iconst 0, 1) := by decide +kernel
theorem dM_verify_59 : decode c_M_verify 59 = .ok (.putfield 57, 3) := by decide +kernel
theorem dM_verify_62 : decode c_M_verify 62 = .ok (.aload_n 0, 1) := by decide +kernel
theorem dM_verify_63 : decode c_M_verify 63 = .ok (.getfield 57, 3) := by decide +kernel
theorem dM_verify_66 : decode c_M_verify 66 = .ok (.ifCond .le 5, 3) := by decide +kernel
theorem dM_verify_69 : decode c_M_verify 69 = .ok (.iconst 0, 1) := by decide +kernel
theorem dM_verify_70 : decode c_M_verify 70 = .ok (.ireturn, 1) := by decide +kernel
theorem dM_verify_71 : decode c_M_verify 71 = .ok (.aload_n 0, 1) := by decide +kernel
theorem dM_verify_72 : decode c_M_verify 72 = .ok (.getfield 53, 3) := by decide +kernel
theorem dM_verify_75 : decode c_M_verify 75 = .ok (.aload_n 0, 1) := by decide +kernel
theorem dM_verify_76 : decode c_M_verify 76 = .ok (.getfield 27, 3) := by decide +kernel
theorem dM_verify_79 : decode c_M_verify 79 = .ok (.iload_n 1, 1) := by decide +kernel
theorem dM_verify_80 : decode c_M_verify 80 = .ok (.iaload, 1) := by decide +kernel
theorem dM_verify_81 : decode c_M_verify 81 = .ok (.iconst 3, 1) := by decide +kernel
theorem dM_verify_82 : decode c_M_verify 82 = .ok (.isub, 1) := by decide +kernel
theorem dM_verify_83 : decode c_M_verify 83 = .ok (.aload_n 0, 1) := by decide +kernel
theorem dM_verify_84 : decode c_M_verify 84 = .ok (.getfield 21, 3) := by decide +kernel
theorem dM_verify_87 : decode c_M_verify 87 = .ok (.iload_n 1, 1) := by decide +kernel
theorem dM_verify_88 : decode c_M_verify 88 = .ok (.aaload, 1) := by decide +kernel
theorem dM_verify_89 : decode c_M_verify 89 = .ok (.aload_n 0, 1) := by decide +kernel
theorem dM_verify_90 : decode c_M_verify 90 = .ok (.getfield 7, 3) := by decide +kernel
theorem dM_verify_93 : decode c_M_verify 93 = .ok (.iload_n 2, 1) := by decide +kernel
theorem dM_verify_94 : decode c_M_verify 94 = .ok (.aload_n 0, 1) := by decide +kernel
theorem dM_verify_95 : decode c_M_verify 95 = .ok (.getfield 70, 3) := by decide +kernel
theorem dM_verify_98 : decode c_M_verify 98 = .ok (.invokevirtual 127, 3) := by decide +kernel
theorem dM_verify_101 : decode c_M_verify 101 = .ok (.istore_n 3, 1) := by decide +kernel
theorem dM_verify_102 : decode c_M_verify 102 = .ok (.aload_n 0, 1) := by decide +kernel
theorem dM_verify_103 : decode c_M_verify 103 = .ok (.iconst 0, 1) := by decide +kernel
theorem dM_verify_104 : decode c_M_verify 104 = .ok (.putfield 70, 3) := by decide +kernel
theorem dM_verify_107 : decode c_M_verify 107 = .ok (.iload_n 3, 1) := by decide +kernel
theorem dM_verify_108 : decode c_M_verify 108 = .ok (.ireturn, 1) := by decide +kernel
abbrev c_M_result : ByteArray := prog_12_method_26_code
abbrev y_M_result : MethodName := ⟨"LatticeKeysModel", "result", "(I)I"⟩
abbrev w_M_result : List Cond := Cond.code y_M_result c_M_result 2 (some .int) :: WG
theorem dM_result_0 : decode c_M_result 0 = .ok (.aload_n 0, 1) := by decide +kernel
theorem dM_result_1 : decode c_M_result 1 = .ok (.iconst 0, 1) := by decide +kernel
theorem dM_result_2 : decode c_M_result 2 = .ok (.putfield 57, 3) := by decide +kernel
theorem dM_result_5 : decode c_M_result 5 = .ok (.iload_n 1, 1) := by decide +kernel
theorem dM_result_6 : decode c_M_result 6 = .ok (.ifCond .lt 11, 3) := by decide +kernel
theorem dM_result_9 : decode c_M_result 9 = .ok (.iload_n 1, 1) := by decide +kernel
theorem dM_result_10 : decode c_M_result 10 = .ok (.aload_n 0, 1) := by decide +kernel
theorem dM_result_11 : decode c_M_result 11 = .ok (.getfield 80, 3) := by decide +kernel
theorem dM_result_14 : decode c_M_result 14 = .ok (.if_icmp .lt 11, 3) := by decide +kernel
theorem dM_result_17 : decode c_M_result 17 = .ok (.aload_n 0, 1) := by decide +kernel
theorem dM_result_18 : decode c_M_result 18 = .ok (.iconst 1, 1) := by decide +kernel
theorem dM_result_19 : decode c_M_result 19 = .ok (.invokevirtual 73, 3) := by decide +kernel
theorem dM_result_22 : decode c_M_result 22 = .ok (.goto 13, 3) := by decide +kernel
theorem dM_result_25 : decode c_M_result 25 = .ok (.aload_n 0, 1) := by decide +kernel
theorem dM_result_26 : decode c_M_result 26 = .ok (.getfield 13, 3) := by decide +kernel
theorem dM_result_29 : decode c_M_result 29 = .ok (.iload_n 1, 1) := by decide +kernel
theorem dM_result_30 : decode c_M_result 30 = .ok (.baload, 1) := by decide +kernel
theorem dM_result_31 : decode c_M_result 31 = .ok (.sipush 255, 3) := by decide +kernel
theorem dM_result_34 : decode c_M_result 34 = .ok (.iand, 1) := by decide +kernel
theorem dM_result_35 : decode c_M_result 35 = .ok (.ireturn, 1) := by decide +kernel
abbrev c_M_count : ByteArray := prog_12_method_27_code
abbrev y_M_count : MethodName := ⟨"LatticeKeysModel", "count", "(I)I"⟩
abbrev w_M_count : List Cond := Cond.code y_M_count c_M_count 2 (some .int) :: WG
theorem dM_count_0 : decode c_M_count 0 = .ok (.aload_n 0, 1) := by decide +kernel
theorem dM_count_1 : decode c_M_count 1 = .ok (.iconst 0, 1) := by decide +kernel
theorem dM_count_2 : decode c_M_count 2 = .ok (.putfield 57, 3) := by decide +kernel
theorem dM_count_5 : decode c_M_count 5 = .ok (.iload_n 1, 1) := by decide +kernel
theorem dM_count_6 : decode c_M_count 6 = .ok (.ifCond .ne 10, 3) := by decide +kernel
theorem dM_count_9 : decode c_M_count 9 = .ok (.aload_n 0, 1) := by decide +kernel
theorem dM_count_10 : decode c_M_count 10 = .ok (.getfield 70, 3) := by decide +kernel
theorem dM_count_13 : decode c_M_count 13 = .ok (.goto 28, 3) := by decide +kernel
theorem dM_count_16 : decode c_M_count 16 = .ok (.iload_n 1, 1) := by decide +kernel
theorem dM_count_17 : decode c_M_count 17 = .ok (.iconst 1, 1) := by decide +kernel
theorem dM_count_18 : decode c_M_count 18 = .ok (.if_icmp .ne 10, 3) := by decide +kernel
theorem dM_count_21 : decode c_M_count 21 = .ok (.aload_n 0, 1) := by decide +kernel
theorem dM_count_22 : decode c_M_count 22 = .ok (.getfield 83, 3) := by decide +kernel
theorem dM_count_25 : decode c_M_count 25 = .ok (.goto 16, 3) := by decide +kernel
theorem dM_count_28 : decode c_M_count 28 = .ok (.iload_n 1, 1) := by decide +kernel
theorem dM_count_29 : decode c_M_count 29 = .ok (.iconst 2, 1) := by decide +kernel
theorem dM_count_30 : decode c_M_count 30 = .ok (.if_icmp .ne 10, 3) := by decide +kernel
theorem dM_count_33 : decode c_M_count 33 = .ok (.aload_n 0, 1) := by decide +kernel
theorem dM_count_34 : decode c_M_count 34 = .ok (.getfield 80, 3) := by decide +kernel
theorem dM_count_37 : decode c_M_count 37 = .ok (.goto 4, 3) := by decide +kernel
theorem dM_count_40 : decode c_M_count 40 = .ok (.iconst (-1), 1) := by decide +kernel
theorem dM_count_41 : decode c_M_count 41 = .ok (.ireturn, 1) := by decide +kernel
set_option maxHeartbeats 400000 in
set_option maxRecDepth 100000 in
theorem m_M_four (l : Launch) (g : Gd) (sz : Nat) (h0 : Nat) (w : Nat → Nat) (k : Nat) (v : Int32) (f : Nat → Int32) (hk : k < 16000)  : Met l y_M_four w_M_four ({ frames := 0, cells := 0, slots := 0, locals := 0 } : Room) (va_Pc [.ref h0, .int v] (pr (en g) g.1 vcl sz [(h0, .inr (8, [.int (nI 0), .int (nI k), .int 0, .int 0, .ref (w 0), .ref (w 1), .ref (w 2), .ref (w 3), .ref (w 4), .ref (w 5), .ref (w 6), .ref (w 7), .ref (w 8), .ref (w 9)])), (w 0, .inl (g.2.1 1, 16384, .inl f))])) (va_Qv (fun (u : Nat → Int32) => True) (po g.1 vcl (va_A [(h0, .inr (8, [.int (nI 0), .int (nI k), .int 0, .int 0, .ref (w 0), .ref (w 1), .ref (w 2), .ref (w 3), .ref (w 4), .ref (w 5), .ref (w 6), .ref (w 7), .ref (w 8), .ref (w 9)])), (w 0, .inl (g.2.1 1, 16384, .inl f))] sz) (fun (u : Nat → Int32) => [(h0, .inr (8, [.int (nI 0), .int (nI (k + 4)), .int 0, .int 0, .ref (w 0), .ref (w 1), .ref (w 2), .ref (w 3), .ref (w 4), .ref (w 5), .ref (w 6), .ref (w 7), .ref (w 8), .ref (w 9)])), (w 0, .inl (g.2.1 1, 16384, .inl u))])) (va_A [(h0, .inr (8, [.int (nI 0), .int (nI k), .int 0, .int 0, .ref (w 0), .ref (w 1), .ref (w 2), .ref (w 3), .ref (w 4), .ref (w 5), .ref (w 6), .ref (w 7), .ref (w 8), .ref (w 9)])), (w 0, .inl (g.2.1 1, 16384, .inl f))] sz)) 0 0 (va_A [(h0, .inr (8, [.int (nI 0), .int (nI k), .int 0, .int 0, .ref (w 0), .ref (w 1), .ref (w 2), .ref (w 3), .ref (w 4), .ref (w 5), .ref (w 6), .ref (w 7), .ref (w 8), .ref (w 9)])), (w 0, .inl (g.2.1 1, 16384, .inl f))] sz) := by
  refine mc_entry (cc := c_M_four) (maxL := 3) (ret := none) (by decide) rfl (Nat.le_of_ble_eq_true rfl) ?_
  intro p e s m args below meth c ls F hr hlk hnm hsz hP hD hE hA hl
  obtain ⟨hx, hb, hml, hown, hts⟩ := id F
  have hK := hE.1
  generalize va_A [(h0, .inr (8, [.int (nI 0), .int (nI k), .int 0, .int 0, .ref (w 0), .ref (w 1), .ref (w 2), .ref (w 3), .ref (w 4), .ref (w 5), .ref (w 6), .ref (w 7), .ref (w 8), .ref (w 9)])), (w 0, .inl (g.2.1 1, 16384, .inl f))] sz = A at hD hE hA ⊢
  have hS : va_S A s.heap s.heap [] := va_S.rf
  have hl : lv_has ls 3 [(0, .ref h0), (1, .int v)] := hl
  refine lv_bipush (v := nI 24) hx hb dM_four_0 (by decide) ?_
  refine lv_istore_n (lv' := [(2, .int (nI 24)), (0, .ref h0), (1, .int v)]) hx hb dM_four_2 rfl hl (by decide) rfl (fun ls hl => ?_)
  refine lv_iload_n hx hb dM_four_3 rfl (lv_at hl 0 rfl) ?_
  refine lv_if_lt (tgt := 36) hx hb dM_four_4 (by decide) (fun h1 => absurd h1 (by decide)) (fun h1 => ?_)
  refine lv_aload_n hx hb dM_four_7 rfl (lv_at hl 1 rfl) ?_
  refine va_get (D := g.1) (ci := 8) (C := "LatticeKeysModel") (T := T_M) (N := 14) hx hb hts (wg_ft i_M) hown hK hP 0 rfl rfl 4 (by decide) (hts _ (wg_t kw_1530)) (fun _ h9 => h9) rfl dM_four_8 ?_
  refine lv_aload_n hx hb dM_four_11 rfl (lv_at hl 1 rfl) ?_
  refine va_get (D := g.1) (ci := 8) (C := "LatticeKeysModel") (T := T_M) (N := 14) hx hb hts (wg_ft i_M) hown hK hP 0 rfl rfl 1 (by decide) (hts _ (wg_t kw_1527)) (fun _ h9 => h9) rfl dM_four_12 ?_
  refine lv_iload_n hx hb dM_four_15 rfl (lv_at hl 2 rfl) ?_
  refine lv_iload_n hx hb dM_four_16 rfl (lv_at hl 0 rfl) ?_
  refine lv_ishr hx hb dM_four_17 ?_
  refine mi_any (fun z1 => ?_)
  refine lv_i2b hx hb dM_four_18 rfl ?_
  refine mi_any (fun z2 => ?_)
  refine ma_bast hx hb hK hP hD hS 1 1 rfl rfl (vp_in_nI (by omega) (by decide)) dM_four_19 (fun f1 H locs hP hD hS => ?_)
  have hP : va_P g.1 vcl [(h0, .inr (8, [.int (nI 0), .int (nI k), .int 0, .int 0, .ref (w 0), .ref (w 1), .ref (w 2), .ref (w 3), .ref (w 4), .ref (w 5), .ref (w 6), .ref (w 7), .ref (w 8), .ref (w 9)])), (w 0, .inl (g.2.1 1, 16384, .inl f1))] _ := hP
  have hD : va_D _ [(h0, .inr (8, [.int (nI 0), .int (nI k), .int 0, .int 0, .ref (w 0), .ref (w 1), .ref (w 2), .ref (w 3), .ref (w 4), .ref (w 5), .ref (w 6), .ref (w 7), .ref (w 8), .ref (w 9)])), (w 0, .inl (g.2.1 1, 16384, .inl f1))] := hD
  refine lv_aload_n hx hb dM_four_20 rfl (lv_at hl 1 rfl) ?_
  refine lv_dup hx hb dM_four_21 rfl ?_
  refine va_get (D := g.1) (ci := 8) (C := "LatticeKeysModel") (T := T_M) (N := 14) hx hb hts (wg_ft i_M) hown hK hP 0 rfl rfl 1 (by decide) (hts _ (wg_t kw_1527)) (fun _ h9 => h9) rfl dM_four_22 ?_
  refine lv_iconst (v := nI 1) hx hb dM_four_25 (by decide) ?_
  refine mi_iadd hx hb dM_four_26 ?_
  refine va_put (D := g.1) (ci := 8) (v := .int (nI (k + 1))) (ty := .int) (C := "LatticeKeysModel") (T := T_M) (N := 14) hx hb hts (wg_ft i_M) ty_M k_M n_M hown hK hP hD hS 0 rfl rfl 1 (by decide) (hts _ (wg_t kw_1527)) (fun _ h9 => h9) rfl (by decide +kernel) rfl rfl (Nat.le_of_ble_eq_true rfl) dM_four_27 (fun H locs hP hD hS => ?_)
  have hP : va_P g.1 vcl [(h0, .inr (8, [.int (nI 0), .int (nI (k + 1)), .int 0, .int 0, .ref (w 0), .ref (w 1), .ref (w 2), .ref (w 3), .ref (w 4), .ref (w 5), .ref (w 6), .ref (w 7), .ref (w 8), .ref (w 9)])), (w 0, .inl (g.2.1 1, 16384, .inl f1))] _ := hP
  have hD : va_D _ [(h0, .inr (8, [.int (nI 0), .int (nI (k + 1)), .int 0, .int 0, .ref (w 0), .ref (w 1), .ref (w 2), .ref (w 3), .ref (w 4), .ref (w 5), .ref (w 6), .ref (w 7), .ref (w 8), .ref (w 9)])), (w 0, .inl (g.2.1 1, 16384, .inl f1))] := hD
  refine lv_iinc (k := 0) (v := nI 16) (lv' := [(2, .int (nI 16)), (0, .ref h0), (1, .int v)]) hx hb dM_four_30 hl rfl (by decide) (by decide) rfl (fun ls hl => ?_)
  refine lv_goto (tgt := 3) hx hb dM_four_33 (by decide) ?_
  refine lv_iload_n hx hb dM_four_3 rfl (lv_at hl 0 rfl) ?_
  refine lv_if_lt (tgt := 36) hx hb dM_four_4 (by decide) (fun h2 => absurd h2 (by decide)) (fun h2 => ?_)
  refine lv_aload_n hx hb dM_four_7 rfl (lv_at hl 1 rfl) ?_
  refine va_get (D := g.1) (ci := 8) (C := "LatticeKeysModel") (T := T_M) (N := 14) hx hb hts (wg_ft i_M) hown hK hP 0 rfl rfl 4 (by decide) (hts _ (wg_t kw_1530)) (fun _ h9 => h9) rfl dM_four_8 ?_
  refine lv_aload_n hx hb dM_four_11 rfl (lv_at hl 1 rfl) ?_
  refine va_get (D := g.1) (ci := 8) (C := "LatticeKeysModel") (T := T_M) (N := 14) hx hb hts (wg_ft i_M) hown hK hP 0 rfl rfl 1 (by decide) (hts _ (wg_t kw_1527)) (fun _ h9 => h9) rfl dM_four_12 ?_
  refine lv_iload_n hx hb dM_four_15 rfl (lv_at hl 2 rfl) ?_
  refine lv_iload_n hx hb dM_four_16 rfl (lv_at hl 0 rfl) ?_
  refine lv_ishr hx hb dM_four_17 ?_
  refine mi_any (fun z3 => ?_)
  refine lv_i2b hx hb dM_four_18 rfl ?_
  refine mi_any (fun z4 => ?_)
  refine ma_bast hx hb hK hP hD hS 1 1 rfl rfl (vp_in_nI (by omega) (by decide)) dM_four_19 (fun f2 H locs hP hD hS => ?_)
  have hP : va_P g.1 vcl [(h0, .inr (8, [.int (nI 0), .int (nI (k + 1)), .int 0, .int 0, .ref (w 0), .ref (w 1), .ref (w 2), .ref (w 3), .ref (w 4), .ref (w 5), .ref (w 6), .ref (w 7), .ref (w 8), .ref (w 9)])), (w 0, .inl (g.2.1 1, 16384, .inl f2))] _ := hP
  have hD : va_D _ [(h0, .inr (8, [.int (nI 0), .int (nI (k + 1)), .int 0, .int 0, .ref (w 0), .ref (w 1), .ref (w 2), .ref (w 3), .ref (w 4), .ref (w 5), .ref (w 6), .ref (w 7), .ref (w 8), .ref (w 9)])), (w 0, .inl (g.2.1 1, 16384, .inl f2))] := hD
  refine lv_aload_n hx hb dM_four_20 rfl (lv_at hl 1 rfl) ?_
  refine lv_dup hx hb dM_four_21 rfl ?_
  refine va_get (D := g.1) (ci := 8) (C := "LatticeKeysModel") (T := T_M) (N := 14) hx hb hts (wg_ft i_M) hown hK hP 0 rfl rfl 1 (by decide) (hts _ (wg_t kw_1527)) (fun _ h9 => h9) rfl dM_four_22 ?_
  refine lv_iconst (v := nI 1) hx hb dM_four_25 (by decide) ?_
  refine mi_iadd hx hb dM_four_26 ?_
  refine va_put (D := g.1) (ci := 8) (v := .int (nI ((k + 1) + 1))) (ty := .int) (C := "LatticeKeysModel") (T := T_M) (N := 14) hx hb hts (wg_ft i_M) ty_M k_M n_M hown hK hP hD hS 0 rfl rfl 1 (by decide) (hts _ (wg_t kw_1527)) (fun _ h9 => h9) rfl (by decide +kernel) rfl rfl (Nat.le_of_ble_eq_true rfl) dM_four_27 (fun H locs hP hD hS => ?_)
  have hP : va_P g.1 vcl [(h0, .inr (8, [.int (nI 0), .int (nI ((k + 1) + 1)), .int 0, .int 0, .ref (w 0), .ref (w 1), .ref (w 2), .ref (w 3), .ref (w 4), .ref (w 5), .ref (w 6), .ref (w 7), .ref (w 8), .ref (w 9)])), (w 0, .inl (g.2.1 1, 16384, .inl f2))] _ := hP
  have hD : va_D _ [(h0, .inr (8, [.int (nI 0), .int (nI ((k + 1) + 1)), .int 0, .int 0, .ref (w 0), .ref (w 1), .ref (w 2), .ref (w 3), .ref (w 4), .ref (w 5), .ref (w 6), .ref (w 7), .ref (w 8), .ref (w 9)])), (w 0, .inl (g.2.1 1, 16384, .inl f2))] := hD
  refine lv_iinc (k := 0) (v := nI 8) (lv' := [(2, .int (nI 8)), (0, .ref h0), (1, .int v)]) hx hb dM_four_30 hl rfl (by decide) (by decide) rfl (fun ls hl => ?_)
  refine lv_goto (tgt := 3) hx hb dM_four_33 (by decide) ?_
  refine lv_iload_n hx hb dM_four_3 rfl (lv_at hl 0 rfl) ?_
  refine lv_if_lt (tgt := 36) hx hb dM_four_4 (by decide) (fun h3 => absurd h3 (by decide)) (fun h3 => ?_)
  refine lv_aload_n hx hb dM_four_7 rfl (lv_at hl 1 rfl) ?_
  refine va_get (D := g.1) (ci := 8) (C := "LatticeKeysModel") (T := T_M) (N := 14) hx hb hts (wg_ft i_M) hown hK hP 0 rfl rfl 4 (by decide) (hts _ (wg_t kw_1530)) (fun _ h9 => h9) rfl dM_four_8 ?_
  refine lv_aload_n hx hb dM_four_11 rfl (lv_at hl 1 rfl) ?_
  refine va_get (D := g.1) (ci := 8) (C := "LatticeKeysModel") (T := T_M) (N := 14) hx hb hts (wg_ft i_M) hown hK hP 0 rfl rfl 1 (by decide) (hts _ (wg_t kw_1527)) (fun _ h9 => h9) rfl dM_four_12 ?_
  refine lv_iload_n hx hb dM_four_15 rfl (lv_at hl 2 rfl) ?_
  refine lv_iload_n hx hb dM_four_16 rfl (lv_at hl 0 rfl) ?_
  refine lv_ishr hx hb dM_four_17 ?_
  refine mi_any (fun z5 => ?_)
  refine lv_i2b hx hb dM_four_18 rfl ?_
  refine mi_any (fun z6 => ?_)
  refine ma_bast hx hb hK hP hD hS 1 1 rfl rfl (vp_in_nI (by omega) (by decide)) dM_four_19 (fun f3 H locs hP hD hS => ?_)
  have hP : va_P g.1 vcl [(h0, .inr (8, [.int (nI 0), .int (nI ((k + 1) + 1)), .int 0, .int 0, .ref (w 0), .ref (w 1), .ref (w 2), .ref (w 3), .ref (w 4), .ref (w 5), .ref (w 6), .ref (w 7), .ref (w 8), .ref (w 9)])), (w 0, .inl (g.2.1 1, 16384, .inl f3))] _ := hP
  have hD : va_D _ [(h0, .inr (8, [.int (nI 0), .int (nI ((k + 1) + 1)), .int 0, .int 0, .ref (w 0), .ref (w 1), .ref (w 2), .ref (w 3), .ref (w 4), .ref (w 5), .ref (w 6), .ref (w 7), .ref (w 8), .ref (w 9)])), (w 0, .inl (g.2.1 1, 16384, .inl f3))] := hD
  refine lv_aload_n hx hb dM_four_20 rfl (lv_at hl 1 rfl) ?_
  refine lv_dup hx hb dM_four_21 rfl ?_
  refine va_get (D := g.1) (ci := 8) (C := "LatticeKeysModel") (T := T_M) (N := 14) hx hb hts (wg_ft i_M) hown hK hP 0 rfl rfl 1 (by decide) (hts _ (wg_t kw_1527)) (fun _ h9 => h9) rfl dM_four_22 ?_
  refine lv_iconst (v := nI 1) hx hb dM_four_25 (by decide) ?_
  refine mi_iadd hx hb dM_four_26 ?_
  refine va_put (D := g.1) (ci := 8) (v := .int (nI (((k + 1) + 1) + 1))) (ty := .int) (C := "LatticeKeysModel") (T := T_M) (N := 14) hx hb hts (wg_ft i_M) ty_M k_M n_M hown hK hP hD hS 0 rfl rfl 1 (by decide) (hts _ (wg_t kw_1527)) (fun _ h9 => h9) rfl (by decide +kernel) rfl rfl (Nat.le_of_ble_eq_true rfl) dM_four_27 (fun H locs hP hD hS => ?_)
  have hP : va_P g.1 vcl [(h0, .inr (8, [.int (nI 0), .int (nI (((k + 1) + 1) + 1)), .int 0, .int 0, .ref (w 0), .ref (w 1), .ref (w 2), .ref (w 3), .ref (w 4), .ref (w 5), .ref (w 6), .ref (w 7), .ref (w 8), .ref (w 9)])), (w 0, .inl (g.2.1 1, 16384, .inl f3))] _ := hP
  have hD : va_D _ [(h0, .inr (8, [.int (nI 0), .int (nI (((k + 1) + 1) + 1)), .int 0, .int 0, .ref (w 0), .ref (w 1), .ref (w 2), .ref (w 3), .ref (w 4), .ref (w 5), .ref (w 6), .ref (w 7), .ref (w 8), .ref (w 9)])), (w 0, .inl (g.2.1 1, 16384, .inl f3))] := hD
  refine lv_iinc (k := 0) (v := nI 0) (lv' := [(2, .int (nI 0)), (0, .ref h0), (1, .int v)]) hx hb dM_four_30 hl rfl (by decide) (by decide) rfl (fun ls hl => ?_)
  refine lv_goto (tgt := 3) hx hb dM_four_33 (by decide) ?_
  refine lv_iload_n hx hb dM_four_3 rfl (lv_at hl 0 rfl) ?_
  refine lv_if_lt (tgt := 36) hx hb dM_four_4 (by decide) (fun h4 => absurd h4 (by decide)) (fun h4 => ?_)
  refine lv_aload_n hx hb dM_four_7 rfl (lv_at hl 1 rfl) ?_
  refine va_get (D := g.1) (ci := 8) (C := "LatticeKeysModel") (T := T_M) (N := 14) hx hb hts (wg_ft i_M) hown hK hP 0 rfl rfl 4 (by decide) (hts _ (wg_t kw_1530)) (fun _ h9 => h9) rfl dM_four_8 ?_
  refine lv_aload_n hx hb dM_four_11 rfl (lv_at hl 1 rfl) ?_
  refine va_get (D := g.1) (ci := 8) (C := "LatticeKeysModel") (T := T_M) (N := 14) hx hb hts (wg_ft i_M) hown hK hP 0 rfl rfl 1 (by decide) (hts _ (wg_t kw_1527)) (fun _ h9 => h9) rfl dM_four_12 ?_
  refine lv_iload_n hx hb dM_four_15 rfl (lv_at hl 2 rfl) ?_
  refine lv_iload_n hx hb dM_four_16 rfl (lv_at hl 0 rfl) ?_
  refine lv_ishr hx hb dM_four_17 ?_
  refine mi_any (fun z7 => ?_)
  refine lv_i2b hx hb dM_four_18 rfl ?_
  refine mi_any (fun z8 => ?_)
  refine ma_bast hx hb hK hP hD hS 1 1 rfl rfl (vp_in_nI (by omega) (by decide)) dM_four_19 (fun f4 H locs hP hD hS => ?_)
  have hP : va_P g.1 vcl [(h0, .inr (8, [.int (nI 0), .int (nI (((k + 1) + 1) + 1)), .int 0, .int 0, .ref (w 0), .ref (w 1), .ref (w 2), .ref (w 3), .ref (w 4), .ref (w 5), .ref (w 6), .ref (w 7), .ref (w 8), .ref (w 9)])), (w 0, .inl (g.2.1 1, 16384, .inl f4))] _ := hP
  have hD : va_D _ [(h0, .inr (8, [.int (nI 0), .int (nI (((k + 1) + 1) + 1)), .int 0, .int 0, .ref (w 0), .ref (w 1), .ref (w 2), .ref (w 3), .ref (w 4), .ref (w 5), .ref (w 6), .ref (w 7), .ref (w 8), .ref (w 9)])), (w 0, .inl (g.2.1 1, 16384, .inl f4))] := hD
  refine lv_aload_n hx hb dM_four_20 rfl (lv_at hl 1 rfl) ?_
  refine lv_dup hx hb dM_four_21 rfl ?_
  refine va_get (D := g.1) (ci := 8) (C := "LatticeKeysModel") (T := T_M) (N := 14) hx hb hts (wg_ft i_M) hown hK hP 0 rfl rfl 1 (by decide) (hts _ (wg_t kw_1527)) (fun _ h9 => h9) rfl dM_four_22 ?_
  refine lv_iconst (v := nI 1) hx hb dM_four_25 (by decide) ?_
  refine mi_iadd hx hb dM_four_26 ?_
  refine va_put (D := g.1) (ci := 8) (v := .int (nI ((((k + 1) + 1) + 1) + 1))) (ty := .int) (C := "LatticeKeysModel") (T := T_M) (N := 14) hx hb hts (wg_ft i_M) ty_M k_M n_M hown hK hP hD hS 0 rfl rfl 1 (by decide) (hts _ (wg_t kw_1527)) (fun _ h9 => h9) rfl (by decide +kernel) rfl rfl (Nat.le_of_ble_eq_true rfl) dM_four_27 (fun H locs hP hD hS => ?_)
  have hP : va_P g.1 vcl [(h0, .inr (8, [.int (nI 0), .int (nI ((((k + 1) + 1) + 1) + 1)), .int 0, .int 0, .ref (w 0), .ref (w 1), .ref (w 2), .ref (w 3), .ref (w 4), .ref (w 5), .ref (w 6), .ref (w 7), .ref (w 8), .ref (w 9)])), (w 0, .inl (g.2.1 1, 16384, .inl f4))] _ := hP
  have hD : va_D _ [(h0, .inr (8, [.int (nI 0), .int (nI ((((k + 1) + 1) + 1) + 1)), .int 0, .int 0, .ref (w 0), .ref (w 1), .ref (w 2), .ref (w 3), .ref (w 4), .ref (w 5), .ref (w 6), .ref (w 7), .ref (w 8), .ref (w 9)])), (w 0, .inl (g.2.1 1, 16384, .inl f4))] := hD
  refine lv_iinc (k := 0) (v := (-8)) (lv' := [(2, .int (-8)), (0, .ref h0), (1, .int v)]) hx hb dM_four_30 hl rfl (by decide) (by decide) rfl (fun ls hl => ?_)
  refine lv_goto (tgt := 3) hx hb dM_four_33 (by decide) ?_
  refine lv_iload_n hx hb dM_four_3 rfl (lv_at hl 0 rfl) ?_
  refine lv_if_lt (tgt := 36) hx hb dM_four_4 (by decide) (fun h5 => ?_) (fun h5 => absurd h5 (by decide))
  have hP : va_P g.1 vcl [(h0, .inr (8, [.int (nI 0), .int (nI (k + 4)), .int 0, .int 0, .ref (w 0), .ref (w 1), .ref (w 2), .ref (w 3), .ref (w 4), .ref (w 5), .ref (w 6), .ref (w 7), .ref (w 8), .ref (w 9)])), (w 0, .inl (g.2.1 1, 16384, .inl f4))] _ := hP
  have hD : va_D _ [(h0, .inr (8, [.int (nI 0), .int (nI (k + 4)), .int 0, .int 0, .ref (w 0), .ref (w 1), .ref (w 2), .ref (w 3), .ref (w 4), .ref (w 5), .ref (w 6), .ref (w 7), .ref (w 8), .ref (w 9)])), (w 0, .inl (g.2.1 1, 16384, .inl f4))] := hD
  exact mc_vret hx hb hr hlk hP hD hS f4 trivial [0, 1] rfl rfl (by omega) (by omega) dM_four_36
set_option maxHeartbeats 400000 in
set_option maxRecDepth 100000 in
theorem m_M_feed (l : Launch) (g : Gd) (sz : Nat) (h0 : Nat) (w : Nat → Nat) (v1 v2 v3 v4 v5 : Int32)  : Met l y_M_feed w_M_feed ({ frames := 1, cells := 0, slots := 0, locals := 40 } : Room) (va_Pc [.ref h0, .int v1, .int v2, .int v3, .int v4, .int v5] (pr (en g) g.1 vcl sz [(h0, .inr (8, [.int 0, .int 0, .int 0, .int 0, .ref (w 0), .ref (w 1), .ref (w 2), .ref (w 3), .ref (w 4), .ref (w 5), .ref (w 6), .ref (w 7), .ref (w 8), .ref (w 9)])), (w 0, .inl (g.2.1 1, 16384, .inl ((fun _ => 0))))])) (va_Qi (fun (r : Int32) (u : Unit) => r = nI 20) (po g.1 vcl (va_A [(h0, .inr (8, [.int 0, .int 0, .int 0, .int 0, .ref (w 0), .ref (w 1), .ref (w 2), .ref (w 3), .ref (w 4), .ref (w 5), .ref (w 6), .ref (w 7), .ref (w 8), .ref (w 9)])), (w 0, .inl (g.2.1 1, 16384, .inl ((fun _ => 0))))] sz) (fun (u : Unit) => [(h0, .inr (8, [.int (nI 0), .int (nI 20), .int 0, .int 0, .ref (w 0), .ref (w 1), .ref (w 2), .ref (w 3), .ref (w 4), .ref (w 5), .ref (w 6), .ref (w 7), .ref (w 8), .ref (w 9)]))])) (va_A [(h0, .inr (8, [.int 0, .int 0, .int 0, .int 0, .ref (w 0), .ref (w 1), .ref (w 2), .ref (w 3), .ref (w 4), .ref (w 5), .ref (w 6), .ref (w 7), .ref (w 8), .ref (w 9)])), (w 0, .inl (g.2.1 1, 16384, .inl ((fun _ => 0))))] sz)) 0 0 (va_A [(h0, .inr (8, [.int 0, .int 0, .int 0, .int 0, .ref (w 0), .ref (w 1), .ref (w 2), .ref (w 3), .ref (w 4), .ref (w 5), .ref (w 6), .ref (w 7), .ref (w 8), .ref (w 9)])), (w 0, .inl (g.2.1 1, 16384, .inl ((fun _ => 0))))] sz) := by
  refine mc_entry (cc := c_M_feed) (maxL := 6) (ret := (some .int)) (by decide) rfl (Nat.le_of_ble_eq_true rfl) ?_
  intro p e s m args below meth c ls F hr hlk hnm hsz hP hD hE hA hl
  obtain ⟨hx, hb, hml, hown, hts⟩ := id F
  have hK := hE.1
  generalize va_A [(h0, .inr (8, [.int 0, .int 0, .int 0, .int 0, .ref (w 0), .ref (w 1), .ref (w 2), .ref (w 3), .ref (w 4), .ref (w 5), .ref (w 6), .ref (w 7), .ref (w 8), .ref (w 9)])), (w 0, .inl (g.2.1 1, 16384, .inl ((fun _ => 0))))] sz = A at hD hE hA ⊢
  have hS : va_S A s.heap s.heap [] := va_S.rf
  have hl : lv_has ls 6 [(0, .ref h0), (1, .int v1), (2, .int v2), (3, .int v3), (4, .int v4), (5, .int v5)] := hl
  refine lv_aload_n hx hb dM_feed_0 rfl (lv_at hl 0 rfl) ?_
  refine lv_iconst (v := nI 0) hx hb dM_feed_1 (by decide) ?_
  refine va_put (D := g.1) (ci := 8) (v := .int (nI 0)) (ty := .int) (C := "LatticeKeysModel") (T := T_M) (N := 14) hx hb hts (wg_ft i_M) ty_M k_M n_M hown hK hP hD hS 0 rfl rfl 0 (by decide) (hts _ (wg_t kw_1526)) (fun _ h9 => h9) rfl (by decide +kernel) rfl rfl (Nat.le_of_ble_eq_true rfl) dM_feed_2 (fun H locs hP hD hS => ?_)
  have hP : va_P g.1 vcl [(h0, .inr (8, [.int (nI 0), .int 0, .int 0, .int 0, .ref (w 0), .ref (w 1), .ref (w 2), .ref (w 3), .ref (w 4), .ref (w 5), .ref (w 6), .ref (w 7), .ref (w 8), .ref (w 9)])), (w 0, .inl (g.2.1 1, 16384, .inl ((fun _ => 0))))] _ := hP
  have hD : va_D _ [(h0, .inr (8, [.int (nI 0), .int 0, .int 0, .int 0, .ref (w 0), .ref (w 1), .ref (w 2), .ref (w 3), .ref (w 4), .ref (w 5), .ref (w 6), .ref (w 7), .ref (w 8), .ref (w 9)])), (w 0, .inl (g.2.1 1, 16384, .inl ((fun _ => 0))))] := hD
  refine lv_aload_n hx hb dM_feed_5 rfl (lv_at hl 0 rfl) ?_
  refine va_get (D := g.1) (ci := 8) (C := "LatticeKeysModel") (T := T_M) (N := 14) hx hb hts (wg_ft i_M) hown hK hP 0 rfl rfl 1 (by decide) (hts _ (wg_t kw_1527)) (fun _ h9 => h9) rfl dM_feed_6 ?_
  refine mi_as (show (0 : Int32) = nI 0 from rfl) ?_
  refine lv_bipush (v := nI 20) hx hb dM_feed_9 (by decide) ?_
  refine mi_iadd hx hb dM_feed_11 ?_
  refine mi_as (show nI (0 + 20) = nI 20 from rfl) ?_
  refine lv_sipush (v := nI 16384) hx hb dM_feed_12 (by decide) ?_
  refine mi_le (tgt := 24) hx hb dM_feed_15 (by decide) (by omega) (by omega) (fun h1 => ?_) (fun h1 => absurd h1 (by omega))
  refine lv_aload_n hx hb dM_feed_24 rfl (lv_at hl 0 rfl) ?_
  refine lv_iload_n hx hb dM_feed_25 rfl (lv_at hl 1 rfl) ?_
  refine mc_v (wc := [(h0, .inr (8, [.int (nI 0), .int 0, .int 0, .int 0, .ref (w 0), .ref (w 1), .ref (w 2), .ref (w 3), .ref (w 4), .ref (w 5), .ref (w 6), .ref (w 7), .ref (w 8), .ref (w 9)])), (w 0, .inl (g.2.1 1, 16384, .inl ((fun _ => 0))))]) (wr := []) hP hD hS hA [0, 1] [] rfl rfl rfl (by decide) (va_runV (As := [.int v1]) (rest := []) F (m_M_four l g _ h0 w 0 v1 (fun _ => 0) (by omega)) (cwV 1 hts (wg_app (wg_c kw_1581 (wg_c kw_1583 (wg_c ks_51 (wg_c kw_9 wg_n)))) kw_1584) rfl rfl rfl (by decide +kernel) ⟨by decide, by decide⟩) (pr_V (en_ok g) (q0 := 0) hK hP hD hS hA hE [0, 1] rfl rfl rfl rfl) rfl rfl hl.1 rfl (lv_room (Nat.le_of_ble_eq_true rfl)) dM_feed_26 ⟨(by decide), (by decide)⟩) (fun u1 H locs hu1 hP hD hS => ?_)
  have hP : va_P g.1 vcl [(h0, .inr (8, [.int (nI 0), .int (nI 4), .int 0, .int 0, .ref (w 0), .ref (w 1), .ref (w 2), .ref (w 3), .ref (w 4), .ref (w 5), .ref (w 6), .ref (w 7), .ref (w 8), .ref (w 9)])), (w 0, .inl (g.2.1 1, 16384, .inl u1))] _ := hP
  have hD : va_D _ [(h0, .inr (8, [.int (nI 0), .int (nI 4), .int 0, .int 0, .ref (w 0), .ref (w 1), .ref (w 2), .ref (w 3), .ref (w 4), .ref (w 5), .ref (w 6), .ref (w 7), .ref (w 8), .ref (w 9)])), (w 0, .inl (g.2.1 1, 16384, .inl u1))] := hD
  refine W.widen (k := 0) (n := 0) (by omega) (by omega) ?_
  refine lv_aload_n hx hb dM_feed_29 rfl (lv_at hl 0 rfl) ?_
  refine lv_iload_n hx hb dM_feed_30 rfl (lv_at hl 2 rfl) ?_
  refine mc_v (wc := [(h0, .inr (8, [.int (nI 0), .int (nI 4), .int 0, .int 0, .ref (w 0), .ref (w 1), .ref (w 2), .ref (w 3), .ref (w 4), .ref (w 5), .ref (w 6), .ref (w 7), .ref (w 8), .ref (w 9)])), (w 0, .inl (g.2.1 1, 16384, .inl u1))]) (wr := []) hP hD hS hA [0, 1] [] rfl rfl rfl (by decide) (va_runV (As := [.int v2]) (rest := []) F (m_M_four l g _ h0 w 4 v2 u1 (by omega)) (cwV 1 hts (wg_app (wg_c kw_1581 (wg_c kw_1583 (wg_c ks_51 (wg_c kw_9 wg_n)))) kw_1584) rfl rfl rfl (by decide +kernel) ⟨by decide, by decide⟩) (pr_V (en_ok g) (q0 := 0) hK hP hD hS hA hE [0, 1] rfl rfl rfl rfl) rfl rfl hl.1 rfl (lv_room (Nat.le_of_ble_eq_true rfl)) dM_feed_31 ⟨(by decide), (by decide)⟩) (fun u2 H locs hu2 hP hD hS => ?_)
  have hP : va_P g.1 vcl [(h0, .inr (8, [.int (nI 0), .int (nI 8), .int 0, .int 0, .ref (w 0), .ref (w 1), .ref (w 2), .ref (w 3), .ref (w 4), .ref (w 5), .ref (w 6), .ref (w 7), .ref (w 8), .ref (w 9)])), (w 0, .inl (g.2.1 1, 16384, .inl u2))] _ := hP
  have hD : va_D _ [(h0, .inr (8, [.int (nI 0), .int (nI 8), .int 0, .int 0, .ref (w 0), .ref (w 1), .ref (w 2), .ref (w 3), .ref (w 4), .ref (w 5), .ref (w 6), .ref (w 7), .ref (w 8), .ref (w 9)])), (w 0, .inl (g.2.1 1, 16384, .inl u2))] := hD
  refine W.widen (k := 0) (n := 0) (by omega) (by omega) ?_
  refine lv_aload_n hx hb dM_feed_34 rfl (lv_at hl 0 rfl) ?_
  refine lv_iload_n hx hb dM_feed_35 rfl (lv_at hl 3 rfl) ?_
  refine mc_v (wc := [(h0, .inr (8, [.int (nI 0), .int (nI 8), .int 0, .int 0, .ref (w 0), .ref (w 1), .ref (w 2), .ref (w 3), .ref (w 4), .ref (w 5), .ref (w 6), .ref (w 7), .ref (w 8), .ref (w 9)])), (w 0, .inl (g.2.1 1, 16384, .inl u2))]) (wr := []) hP hD hS hA [0, 1] [] rfl rfl rfl (by decide) (va_runV (As := [.int v3]) (rest := []) F (m_M_four l g _ h0 w 8 v3 u2 (by omega)) (cwV 1 hts (wg_app (wg_c kw_1581 (wg_c kw_1583 (wg_c ks_51 (wg_c kw_9 wg_n)))) kw_1584) rfl rfl rfl (by decide +kernel) ⟨by decide, by decide⟩) (pr_V (en_ok g) (q0 := 0) hK hP hD hS hA hE [0, 1] rfl rfl rfl rfl) rfl rfl hl.1 rfl (lv_room (Nat.le_of_ble_eq_true rfl)) dM_feed_36 ⟨(by decide), (by decide)⟩) (fun u3 H locs hu3 hP hD hS => ?_)
  have hP : va_P g.1 vcl [(h0, .inr (8, [.int (nI 0), .int (nI 12), .int 0, .int 0, .ref (w 0), .ref (w 1), .ref (w 2), .ref (w 3), .ref (w 4), .ref (w 5), .ref (w 6), .ref (w 7), .ref (w 8), .ref (w 9)])), (w 0, .inl (g.2.1 1, 16384, .inl u3))] _ := hP
  have hD : va_D _ [(h0, .inr (8, [.int (nI 0), .int (nI 12), .int 0, .int 0, .ref (w 0), .ref (w 1), .ref (w 2), .ref (w 3), .ref (w 4), .ref (w 5), .ref (w 6), .ref (w 7), .ref (w 8), .ref (w 9)])), (w 0, .inl (g.2.1 1, 16384, .inl u3))] := hD
  refine W.widen (k := 0) (n := 0) (by omega) (by omega) ?_
  refine lv_aload_n hx hb dM_feed_39 rfl (lv_at hl 0 rfl) ?_
  refine lv_iload hx hb dM_feed_40 (lv_at hl 4 rfl) ?_
  refine mc_v (wc := [(h0, .inr (8, [.int (nI 0), .int (nI 12), .int 0, .int 0, .ref (w 0), .ref (w 1), .ref (w 2), .ref (w 3), .ref (w 4), .ref (w 5), .ref (w 6), .ref (w 7), .ref (w 8), .ref (w 9)])), (w 0, .inl (g.2.1 1, 16384, .inl u3))]) (wr := []) hP hD hS hA [0, 1] [] rfl rfl rfl (by decide) (va_runV (As := [.int v4]) (rest := []) F (m_M_four l g _ h0 w 12 v4 u3 (by omega)) (cwV 1 hts (wg_app (wg_c kw_1581 (wg_c kw_1583 (wg_c ks_51 (wg_c kw_9 wg_n)))) kw_1584) rfl rfl rfl (by decide +kernel) ⟨by decide, by decide⟩) (pr_V (en_ok g) (q0 := 0) hK hP hD hS hA hE [0, 1] rfl rfl rfl rfl) rfl rfl hl.1 rfl (lv_room (Nat.le_of_ble_eq_true rfl)) dM_feed_42 ⟨(by decide), (by decide)⟩) (fun u4 H locs hu4 hP hD hS => ?_)
  have hP : va_P g.1 vcl [(h0, .inr (8, [.int (nI 0), .int (nI 16), .int 0, .int 0, .ref (w 0), .ref (w 1), .ref (w 2), .ref (w 3), .ref (w 4), .ref (w 5), .ref (w 6), .ref (w 7), .ref (w 8), .ref (w 9)])), (w 0, .inl (g.2.1 1, 16384, .inl u4))] _ := hP
  have hD : va_D _ [(h0, .inr (8, [.int (nI 0), .int (nI 16), .int 0, .int 0, .ref (w 0), .ref (w 1), .ref (w 2), .ref (w 3), .ref (w 4), .ref (w 5), .ref (w 6), .ref (w 7), .ref (w 8), .ref (w 9)])), (w 0, .inl (g.2.1 1, 16384, .inl u4))] := hD
  refine W.widen (k := 0) (n := 0) (by omega) (by omega) ?_
  refine lv_aload_n hx hb dM_feed_45 rfl (lv_at hl 0 rfl) ?_
  refine lv_iload hx hb dM_feed_46 (lv_at hl 5 rfl) ?_
  refine mc_v (wc := [(h0, .inr (8, [.int (nI 0), .int (nI 16), .int 0, .int 0, .ref (w 0), .ref (w 1), .ref (w 2), .ref (w 3), .ref (w 4), .ref (w 5), .ref (w 6), .ref (w 7), .ref (w 8), .ref (w 9)])), (w 0, .inl (g.2.1 1, 16384, .inl u4))]) (wr := []) hP hD hS hA [0, 1] [] rfl rfl rfl (by decide) (va_runV (As := [.int v5]) (rest := []) F (m_M_four l g _ h0 w 16 v5 u4 (by omega)) (cwV 1 hts (wg_app (wg_c kw_1581 (wg_c kw_1583 (wg_c ks_51 (wg_c kw_9 wg_n)))) kw_1584) rfl rfl rfl (by decide +kernel) ⟨by decide, by decide⟩) (pr_V (en_ok g) (q0 := 0) hK hP hD hS hA hE [0, 1] rfl rfl rfl rfl) rfl rfl hl.1 rfl (lv_room (Nat.le_of_ble_eq_true rfl)) dM_feed_48 ⟨(by decide), (by decide)⟩) (fun u5 H locs hu5 hP hD hS => ?_)
  have hP : va_P g.1 vcl [(h0, .inr (8, [.int (nI 0), .int (nI 20), .int 0, .int 0, .ref (w 0), .ref (w 1), .ref (w 2), .ref (w 3), .ref (w 4), .ref (w 5), .ref (w 6), .ref (w 7), .ref (w 8), .ref (w 9)])), (w 0, .inl (g.2.1 1, 16384, .inl u5))] _ := hP
  have hD : va_D _ [(h0, .inr (8, [.int (nI 0), .int (nI 20), .int 0, .int 0, .ref (w 0), .ref (w 1), .ref (w 2), .ref (w 3), .ref (w 4), .ref (w 5), .ref (w 6), .ref (w 7), .ref (w 8), .ref (w 9)])), (w 0, .inl (g.2.1 1, 16384, .inl u5))] := hD
  refine W.widen (k := 0) (n := 0) (by omega) (by omega) ?_
  refine lv_aload_n hx hb dM_feed_51 rfl (lv_at hl 0 rfl) ?_
  refine va_get (D := g.1) (ci := 8) (C := "LatticeKeysModel") (T := T_M) (N := 14) hx hb hts (wg_ft i_M) hown hK hP 0 rfl rfl 1 (by decide) (hts _ (wg_t kw_1527)) (fun _ h9 => h9) rfl dM_feed_52 ?_
  exact mc_iret hx hb hr hlk hP hD hS () rfl [0] rfl rfl (by omega) (by omega) dM_feed_55
set_option maxHeartbeats 400000 in
set_option maxRecDepth 100000 in
theorem m_M_end0 (l : Launch) (g : Gd) (sz : Nat) (h0 : Nat) (w : Nat → Nat)  : Met l y_M_end w_M_end ({ frames := 1, cells := 0, slots := 0, locals := 40 } : Room) (va_Pc [.ref h0, .int (nI 0)] (pr (en g) g.1 vcl sz [(h0, .inr (8, [.int 0, .int 0, .int 0, .int 0, .ref (w 0), .ref (w 1), .ref (w 2), .ref (w 3), .ref (w 4), .ref (w 5), .ref (w 6), .ref (w 7), .ref (w 8), .ref (w 9)]))])) (va_Qi (fun (r : Int32) (u : Unit) => r = nI 0) (po g.1 vcl (va_A [(h0, .inr (8, [.int 0, .int 0, .int 0, .int 0, .ref (w 0), .ref (w 1), .ref (w 2), .ref (w 3), .ref (w 4), .ref (w 5), .ref (w 6), .ref (w 7), .ref (w 8), .ref (w 9)]))] sz) (fun (u : Unit) => [(h0, .inr (8, [.int (nI 0), .int (nI 0), .int 0, .int 0, .ref (w 0), .ref (w 1), .ref (w 2), .ref (w 3), .ref (w 4), .ref (w 5), .ref (w 6), .ref (w 7), .ref (w 8), .ref (w 9)]))])) (va_A [(h0, .inr (8, [.int 0, .int 0, .int 0, .int 0, .ref (w 0), .ref (w 1), .ref (w 2), .ref (w 3), .ref (w 4), .ref (w 5), .ref (w 6), .ref (w 7), .ref (w 8), .ref (w 9)]))] sz)) 0 0 (va_A [(h0, .inr (8, [.int 0, .int 0, .int 0, .int 0, .ref (w 0), .ref (w 1), .ref (w 2), .ref (w 3), .ref (w 4), .ref (w 5), .ref (w 6), .ref (w 7), .ref (w 8), .ref (w 9)]))] sz) := by
  refine mc_entry (cc := c_M_end) (maxL := 2) (ret := (some .int)) (by decide) rfl (Nat.le_of_ble_eq_true rfl) ?_
  intro p e s m args below meth c ls F hr hlk hnm hsz hP hD hE hA hl
  obtain ⟨hx, hb, hml, hown, hts⟩ := id F
  have hK := hE.1
  generalize va_A [(h0, .inr (8, [.int 0, .int 0, .int 0, .int 0, .ref (w 0), .ref (w 1), .ref (w 2), .ref (w 3), .ref (w 4), .ref (w 5), .ref (w 6), .ref (w 7), .ref (w 8), .ref (w 9)]))] sz = A at hD hE hA ⊢
  have hS : va_S A s.heap s.heap [] := va_S.rf
  have hl : lv_has ls 2 [(0, .ref h0), (1, .int (nI 0))] := hl
  refine lv_aload_n hx hb dM_end_0 rfl (lv_at hl 0 rfl) ?_
  refine lv_iconst (v := nI 0) hx hb dM_end_1 (by decide) ?_
  refine va_put (D := g.1) (ci := 8) (v := .int (nI 0)) (ty := .int) (C := "LatticeKeysModel") (T := T_M) (N := 14) hx hb hts (wg_ft i_M) ty_M k_M n_M hown hK hP hD hS 0 rfl rfl 0 (by decide) (hts _ (wg_t kw_1526)) (fun _ h9 => h9) rfl (by decide +kernel) rfl rfl (Nat.le_of_ble_eq_true rfl) dM_end_2 (fun H locs hP hD hS => ?_)
  have hP : va_P g.1 vcl [(h0, .inr (8, [.int (nI 0), .int 0, .int 0, .int 0, .ref (w 0), .ref (w 1), .ref (w 2), .ref (w 3), .ref (w 4), .ref (w 5), .ref (w 6), .ref (w 7), .ref (w 8), .ref (w 9)]))] _ := hP
  have hD : va_D _ [(h0, .inr (8, [.int (nI 0), .int 0, .int 0, .int 0, .ref (w 0), .ref (w 1), .ref (w 2), .ref (w 3), .ref (w 4), .ref (w 5), .ref (w 6), .ref (w 7), .ref (w 8), .ref (w 9)]))] := hD
  refine lv_iload_n hx hb dM_end_5 rfl (lv_at hl 1 rfl) ?_
  refine lv_if_lt (tgt := 17) hx hb dM_end_6 (by decide) (fun h1 => absurd h1 (by decide)) (fun h1 => ?_)
  refine lv_iload_n hx hb dM_end_9 rfl (lv_at hl 1 rfl) ?_
  refine lv_aload_n hx hb dM_end_10 rfl (lv_at hl 0 rfl) ?_
  refine va_get (D := g.1) (ci := 8) (C := "LatticeKeysModel") (T := T_M) (N := 14) hx hb hts (wg_ft i_M) hown hK hP 0 rfl rfl 1 (by decide) (hts _ (wg_t kw_1527)) (fun _ h9 => h9) rfl dM_end_11 ?_
  refine mi_as (show (0 : Int32) = nI 0 from rfl) ?_
  refine mi_le (tgt := 23) hx hb dM_end_14 (by decide) (by omega) (by omega) (fun h2 => ?_) (fun h2 => absurd h2 (by omega))
  refine lv_aload_n hx hb dM_end_23 rfl (lv_at hl 0 rfl) ?_
  refine lv_iload_n hx hb dM_end_24 rfl (lv_at hl 1 rfl) ?_
  refine va_put (D := g.1) (ci := 8) (v := .int (nI 0)) (ty := .int) (C := "LatticeKeysModel") (T := T_M) (N := 14) hx hb hts (wg_ft i_M) ty_M k_M n_M hown hK hP hD hS 0 rfl rfl 1 (by decide) (hts _ (wg_t kw_1527)) (fun _ h9 => h9) rfl (by decide +kernel) rfl rfl (Nat.le_of_ble_eq_true rfl) dM_end_25 (fun H locs hP hD hS => ?_)
  have hP : va_P g.1 vcl [(h0, .inr (8, [.int (nI 0), .int (nI 0), .int 0, .int 0, .ref (w 0), .ref (w 1), .ref (w 2), .ref (w 3), .ref (w 4), .ref (w 5), .ref (w 6), .ref (w 7), .ref (w 8), .ref (w 9)]))] _ := hP
  have hD : va_D _ [(h0, .inr (8, [.int (nI 0), .int (nI 0), .int 0, .int 0, .ref (w 0), .ref (w 1), .ref (w 2), .ref (w 3), .ref (w 4), .ref (w 5), .ref (w 6), .ref (w 7), .ref (w 8), .ref (w 9)]))] := hD
  refine lv_iload_n hx hb dM_end_28 rfl (lv_at hl 1 rfl) ?_
  exact mc_iret hx hb hr hlk hP hD hS () rfl [0] rfl rfl (by omega) (by omega) dM_end_29
set_option maxHeartbeats 400000 in
set_option maxRecDepth 100000 in
theorem x_M_end (l : Launch) (g : Gd) (sz : Nat) (h0 : Nat) (w : Nat → Nat) (v : Int32) (hv : ¬ v = 0)  : Met l y_M_end w_M_end ({ frames := 1, cells := 0, slots := 0, locals := 40 } : Room) (va_Pc [.ref h0, .int v] (pr (en g) g.1 vcl sz [(h0, .inr (8, [.int 0, .int 0, .int 0, .int 0, .ref (w 0), .ref (w 1), .ref (w 2), .ref (w 3), .ref (w 4), .ref (w 5), .ref (w 6), .ref (w 7), .ref (w 8), .ref (w 9)]))])) (va_Qi (fun (r : Int32) (u : Unit) => r = nI 0) (po g.1 vcl (va_A [(h0, .inr (8, [.int 0, .int 0, .int 0, .int 0, .ref (w 0), .ref (w 1), .ref (w 2), .ref (w 3), .ref (w 4), .ref (w 5), .ref (w 6), .ref (w 7), .ref (w 8), .ref (w 9)]))] sz) (fun (u : Unit) => [(h0, .inr (8, [.int (nI 1), .int 0, .int 0, .int 0, .ref (w 0), .ref (w 1), .ref (w 2), .ref (w 3), .ref (w 4), .ref (w 5), .ref (w 6), .ref (w 7), .ref (w 8), .ref (w 9)]))])) (va_A [(h0, .inr (8, [.int 0, .int 0, .int 0, .int 0, .ref (w 0), .ref (w 1), .ref (w 2), .ref (w 3), .ref (w 4), .ref (w 5), .ref (w 6), .ref (w 7), .ref (w 8), .ref (w 9)]))] sz)) 0 0 (va_A [(h0, .inr (8, [.int 0, .int 0, .int 0, .int 0, .ref (w 0), .ref (w 1), .ref (w 2), .ref (w 3), .ref (w 4), .ref (w 5), .ref (w 6), .ref (w 7), .ref (w 8), .ref (w 9)]))] sz) := by
  refine mc_entry (cc := c_M_end) (maxL := 2) (ret := (some .int)) (by decide) rfl (Nat.le_of_ble_eq_true rfl) ?_
  intro p e s m args below meth c ls F hr hlk hnm hsz hP hD hE hA hl
  obtain ⟨hx, hb, hml, hown, hts⟩ := id F
  have hK := hE.1
  generalize va_A [(h0, .inr (8, [.int 0, .int 0, .int 0, .int 0, .ref (w 0), .ref (w 1), .ref (w 2), .ref (w 3), .ref (w 4), .ref (w 5), .ref (w 6), .ref (w 7), .ref (w 8), .ref (w 9)]))] sz = A at hD hE hA ⊢
  have hS : va_S A s.heap s.heap [] := va_S.rf
  have hl : lv_has ls 2 [(0, .ref h0), (1, .int v)] := hl
  refine lv_aload_n hx hb dM_end_0 rfl (lv_at hl 0 rfl) ?_
  refine lv_iconst (v := nI 0) hx hb dM_end_1 (by decide) ?_
  refine va_put (D := g.1) (ci := 8) (v := .int (nI 0)) (ty := .int) (C := "LatticeKeysModel") (T := T_M) (N := 14) hx hb hts (wg_ft i_M) ty_M k_M n_M hown hK hP hD hS 0 rfl rfl 0 (by decide) (hts _ (wg_t kw_1526)) (fun _ h9 => h9) rfl (by decide +kernel) rfl rfl (Nat.le_of_ble_eq_true rfl) dM_end_2 (fun H locs hP hD hS => ?_)
  have hP : va_P g.1 vcl [(h0, .inr (8, [.int (nI 0), .int 0, .int 0, .int 0, .ref (w 0), .ref (w 1), .ref (w 2), .ref (w 3), .ref (w 4), .ref (w 5), .ref (w 6), .ref (w 7), .ref (w 8), .ref (w 9)]))] _ := hP
  have hD : va_D _ [(h0, .inr (8, [.int (nI 0), .int 0, .int 0, .int 0, .ref (w 0), .ref (w 1), .ref (w 2), .ref (w 3), .ref (w 4), .ref (w 5), .ref (w 6), .ref (w 7), .ref (w 8), .ref (w 9)]))] := hD
  refine lv_iload_n hx hb dM_end_5 rfl (lv_at hl 1 rfl) ?_
  refine lv_if_lt (tgt := 17) hx hb dM_end_6 (by decide) (fun h1 => ?_) (fun h1 => ?_)
  · refine lv_aload_n hx hb dM_end_17 rfl (lv_at hl 0 rfl) ?_
    refine lv_iconst (v := nI 1) hx hb dM_end_18 (by decide) ?_
    refine mc_i (wc := [(h0, .inr (8, [.int (nI 0), .int 0, .int 0, .int 0, .ref (w 0), .ref (w 1), .ref (w 2), .ref (w 3), .ref (w 4), .ref (w 5), .ref (w 6), .ref (w 7), .ref (w 8), .ref (w 9)]))]) (wr := []) hP hD hS hA [0] [] rfl rfl rfl (by decide) (va_runV (As := [.int (nI 1)]) (rest := []) F (m_M_fail l g _ h0 w (nI 0) 0 0 0 (nI 1)) (cwV 1 hts (wg_app (wg_c kw_1577 (wg_c kw_1579 (wg_c ks_50 (wg_c kw_9 wg_n)))) kw_1580) rfl rfl rfl (by decide +kernel) ⟨by decide, by decide⟩) (pr_V (en_ok g) (q0 := 0) hK hP hD hS hA hE [0] rfl rfl rfl rfl) rfl rfl hl.1 rfl (lv_room (Nat.le_of_ble_eq_true rfl)) dM_end_19 ⟨(by decide), (by decide)⟩) (fun r1 u1 H locs hu1 hP hD hS => ?_)
    subst hu1
    have hP : va_P g.1 vcl [(h0, .inr (8, [.int (nI 1), .int 0, .int 0, .int 0, .ref (w 0), .ref (w 1), .ref (w 2), .ref (w 3), .ref (w 4), .ref (w 5), .ref (w 6), .ref (w 7), .ref (w 8), .ref (w 9)]))] _ := hP
    have hD : va_D _ [(h0, .inr (8, [.int (nI 1), .int 0, .int 0, .int 0, .ref (w 0), .ref (w 1), .ref (w 2), .ref (w 3), .ref (w 4), .ref (w 5), .ref (w 6), .ref (w 7), .ref (w 8), .ref (w 9)]))] := hD
    refine W.widen (k := 0) (n := 0) (by omega) (by omega) ?_
    exact mc_iret hx hb hr hlk hP hD hS () rfl [0] rfl rfl (by omega) (by omega) dM_end_22
  · refine lv_iload_n hx hb dM_end_9 rfl (lv_at hl 1 rfl) ?_
    refine lv_aload_n hx hb dM_end_10 rfl (lv_at hl 0 rfl) ?_
    refine va_get (D := g.1) (ci := 8) (C := "LatticeKeysModel") (T := T_M) (N := 14) hx hb hts (wg_ft i_M) hown hK hP 0 rfl rfl 1 (by decide) (hts _ (wg_t kw_1527)) (fun _ h9 => h9) rfl dM_end_11 ?_
    refine mi_as (show (0 : Int32) = nI 0 from rfl) ?_
    refine lv_icmp_le (tgt := 23) hx hb dM_end_14 (by decide) (fun h2 => absurd h2 (int0 h1 hv)) (fun h2 => ?_)
    refine lv_aload_n hx hb dM_end_17 rfl (lv_at hl 0 rfl) ?_
    refine lv_iconst (v := nI 1) hx hb dM_end_18 (by decide) ?_
    refine mc_i (wc := [(h0, .inr (8, [.int (nI 0), .int 0, .int 0, .int 0, .ref (w 0), .ref (w 1), .ref (w 2), .ref (w 3), .ref (w 4), .ref (w 5), .ref (w 6), .ref (w 7), .ref (w 8), .ref (w 9)]))]) (wr := []) hP hD hS hA [0] [] rfl rfl rfl (by decide) (va_runV (As := [.int (nI 1)]) (rest := []) F (m_M_fail l g _ h0 w (nI 0) 0 0 0 (nI 1)) (cwV 1 hts (wg_app (wg_c kw_1577 (wg_c kw_1579 (wg_c ks_50 (wg_c kw_9 wg_n)))) kw_1580) rfl rfl rfl (by decide +kernel) ⟨by decide, by decide⟩) (pr_V (en_ok g) (q0 := 0) hK hP hD hS hA hE [0] rfl rfl rfl rfl) rfl rfl hl.1 rfl (lv_room (Nat.le_of_ble_eq_true rfl)) dM_end_19 ⟨(by decide), (by decide)⟩) (fun r2 u2 H locs hu2 hP hD hS => ?_)
    subst hu2
    have hP : va_P g.1 vcl [(h0, .inr (8, [.int (nI 1), .int 0, .int 0, .int 0, .ref (w 0), .ref (w 1), .ref (w 2), .ref (w 3), .ref (w 4), .ref (w 5), .ref (w 6), .ref (w 7), .ref (w 8), .ref (w 9)]))] _ := hP
    have hD : va_D _ [(h0, .inr (8, [.int (nI 1), .int 0, .int 0, .int 0, .ref (w 0), .ref (w 1), .ref (w 2), .ref (w 3), .ref (w 4), .ref (w 5), .ref (w 6), .ref (w 7), .ref (w 8), .ref (w 9)]))] := hD
    refine W.widen (k := 0) (n := 0) (by omega) (by omega) ?_
    exact mc_iret hx hb hr hlk hP hD hS () rfl [0] rfl rfl (by omega) (by omega) dM_end_22
set_option maxHeartbeats 400000 in
set_option maxRecDepth 100000 in
theorem m_M_again (l : Launch) (g : Gd) (sz : Nat) (h0 : Nat) (w : Nat → Nat)  : Met l y_M_again w_M_again ({ frames := 1, cells := 0, slots := 0, locals := 40 } : Room) (va_Pc [.ref h0] (pr (en g) g.1 vcl sz [(h0, .inr (8, [.int 0, .int 0, .int 0, .int 0, .ref (w 0), .ref (w 1), .ref (w 2), .ref (w 3), .ref (w 4), .ref (w 5), .ref (w 6), .ref (w 7), .ref (w 8), .ref (w 9)]))])) (va_Qi (fun (r : Int32) (u : Unit) => r = nI 0) (po g.1 vcl (va_A [(h0, .inr (8, [.int 0, .int 0, .int 0, .int 0, .ref (w 0), .ref (w 1), .ref (w 2), .ref (w 3), .ref (w 4), .ref (w 5), .ref (w 6), .ref (w 7), .ref (w 8), .ref (w 9)]))] sz) (fun (u : Unit) => [(h0, .inr (8, [.int (nI 0), .int (nI 0), .int 0, .int 0, .ref (w 0), .ref (w 1), .ref (w 2), .ref (w 3), .ref (w 4), .ref (w 5), .ref (w 6), .ref (w 7), .ref (w 8), .ref (w 9)]))])) (va_A [(h0, .inr (8, [.int 0, .int 0, .int 0, .int 0, .ref (w 0), .ref (w 1), .ref (w 2), .ref (w 3), .ref (w 4), .ref (w 5), .ref (w 6), .ref (w 7), .ref (w 8), .ref (w 9)]))] sz)) 0 0 (va_A [(h0, .inr (8, [.int 0, .int 0, .int 0, .int 0, .ref (w 0), .ref (w 1), .ref (w 2), .ref (w 3), .ref (w 4), .ref (w 5), .ref (w 6), .ref (w 7), .ref (w 8), .ref (w 9)]))] sz) := by
  refine mc_entry (cc := c_M_again) (maxL := 2) (ret := (some .int)) (by decide) rfl (Nat.le_of_ble_eq_true rfl) ?_
  intro p e s m args below meth c ls F hr hlk hnm hsz hP hD hE hA hl
  obtain ⟨hx, hb, hml, hown, hts⟩ := id F
  have hK := hE.1
  generalize va_A [(h0, .inr (8, [.int 0, .int 0, .int 0, .int 0, .ref (w 0), .ref (w 1), .ref (w 2), .ref (w 3), .ref (w 4), .ref (w 5), .ref (w 6), .ref (w 7), .ref (w 8), .ref (w 9)]))] sz = A at hD hE hA ⊢
  have hS : va_S A s.heap s.heap [] := va_S.rf
  have hl : lv_has ls 2 [(0, .ref h0)] := hl
  refine lv_aload_n hx hb dM_again_0 rfl (lv_at hl 0 rfl) ?_
  refine lv_iconst (v := nI 0) hx hb dM_again_1 (by decide) ?_
  refine va_put (D := g.1) (ci := 8) (v := .int (nI 0)) (ty := .int) (C := "LatticeKeysModel") (T := T_M) (N := 14) hx hb hts (wg_ft i_M) ty_M k_M n_M hown hK hP hD hS 0 rfl rfl 0 (by decide) (hts _ (wg_t kw_1526)) (fun _ h9 => h9) rfl (by decide +kernel) rfl rfl (Nat.le_of_ble_eq_true rfl) dM_again_2 (fun H locs hP hD hS => ?_)
  have hP : va_P g.1 vcl [(h0, .inr (8, [.int (nI 0), .int 0, .int 0, .int 0, .ref (w 0), .ref (w 1), .ref (w 2), .ref (w 3), .ref (w 4), .ref (w 5), .ref (w 6), .ref (w 7), .ref (w 8), .ref (w 9)]))] _ := hP
  have hD : va_D _ [(h0, .inr (8, [.int (nI 0), .int 0, .int 0, .int 0, .ref (w 0), .ref (w 1), .ref (w 2), .ref (w 3), .ref (w 4), .ref (w 5), .ref (w 6), .ref (w 7), .ref (w 8), .ref (w 9)]))] := hD
  refine lv_aload_n hx hb dM_again_5 rfl (lv_at hl 0 rfl) ?_
  refine va_get (D := g.1) (ci := 8) (C := "LatticeKeysModel") (T := T_M) (N := 14) hx hb hts (wg_ft i_M) hown hK hP 0 rfl rfl 1 (by decide) (hts _ (wg_t kw_1527)) (fun _ h9 => h9) rfl dM_again_6 ?_
  refine mi_as (show (0 : Int32) = nI 0 from rfl) ?_
  refine lv_aload_n hx hb dM_again_9 rfl (lv_at hl 0 rfl) ?_
  refine va_get (D := g.1) (ci := 8) (C := "LatticeKeysModel") (T := T_M) (N := 14) hx hb hts (wg_ft i_M) hown hK hP 0 rfl rfl 2 (by decide) (hts _ (wg_t kw_1528)) (fun _ h9 => h9) rfl dM_again_10 ?_
  refine mi_as (show (0 : Int32) = nI 0 from rfl) ?_
  refine mi_iadd hx hb dM_again_13 ?_
  refine mi_as (show nI (0 + 0) = nI 0 from rfl) ?_
  refine lv_sipush (v := nI 16384) hx hb dM_again_14 (by decide) ?_
  refine mi_le (tgt := 26) hx hb dM_again_17 (by decide) (by omega) (by omega) (fun h1 => ?_) (fun h1 => absurd h1 (by omega))
  refine lv_iconst (v := nI 0) hx hb dM_again_26 (by decide) ?_
  refine lv_istore_n (lv' := [(1, .int (nI 0)), (0, .ref h0)]) hx hb dM_again_27 rfl hl (by decide) rfl (fun ls hl => ?_)
  refine lv_iload_n hx hb dM_again_28 rfl (lv_at hl 0 rfl) ?_
  refine lv_aload_n hx hb dM_again_29 rfl (lv_at hl 1 rfl) ?_
  refine va_get (D := g.1) (ci := 8) (C := "LatticeKeysModel") (T := T_M) (N := 14) hx hb hts (wg_ft i_M) hown hK hP 0 rfl rfl 2 (by decide) (hts _ (wg_t kw_1528)) (fun _ h9 => h9) rfl dM_again_30 ?_
  refine mi_as (show (0 : Int32) = nI 0 from rfl) ?_
  refine mi_ge (tgt := 59) hx hb dM_again_33 (by decide) (by omega) (by omega) (fun h2 => ?_) (fun h2 => absurd h2 (by omega))
  refine lv_aload_n hx hb dM_again_59 rfl (lv_at hl 1 rfl) ?_
  refine lv_dup hx hb dM_again_60 rfl ?_
  refine va_get (D := g.1) (ci := 8) (C := "LatticeKeysModel") (T := T_M) (N := 14) hx hb hts (wg_ft i_M) hown hK hP 0 rfl rfl 1 (by decide) (hts _ (wg_t kw_1527)) (fun _ h9 => h9) rfl dM_again_61 ?_
  refine mi_as (show (0 : Int32) = nI 0 from rfl) ?_
  refine lv_aload_n hx hb dM_again_64 rfl (lv_at hl 1 rfl) ?_
  refine va_get (D := g.1) (ci := 8) (C := "LatticeKeysModel") (T := T_M) (N := 14) hx hb hts (wg_ft i_M) hown hK hP 0 rfl rfl 2 (by decide) (hts _ (wg_t kw_1528)) (fun _ h9 => h9) rfl dM_again_65 ?_
  refine mi_as (show (0 : Int32) = nI 0 from rfl) ?_
  refine mi_iadd hx hb dM_again_68 ?_
  refine mi_as (show nI (0 + 0) = nI 0 from rfl) ?_
  refine va_put (D := g.1) (ci := 8) (v := .int (nI 0)) (ty := .int) (C := "LatticeKeysModel") (T := T_M) (N := 14) hx hb hts (wg_ft i_M) ty_M k_M n_M hown hK hP hD hS 0 rfl rfl 1 (by decide) (hts _ (wg_t kw_1527)) (fun _ h9 => h9) rfl (by decide +kernel) rfl rfl (Nat.le_of_ble_eq_true rfl) dM_again_69 (fun H locs hP hD hS => ?_)
  have hP : va_P g.1 vcl [(h0, .inr (8, [.int (nI 0), .int (nI 0), .int 0, .int 0, .ref (w 0), .ref (w 1), .ref (w 2), .ref (w 3), .ref (w 4), .ref (w 5), .ref (w 6), .ref (w 7), .ref (w 8), .ref (w 9)]))] _ := hP
  have hD : va_D _ [(h0, .inr (8, [.int (nI 0), .int (nI 0), .int 0, .int 0, .ref (w 0), .ref (w 1), .ref (w 2), .ref (w 3), .ref (w 4), .ref (w 5), .ref (w 6), .ref (w 7), .ref (w 8), .ref (w 9)]))] := hD
  refine lv_aload_n hx hb dM_again_72 rfl (lv_at hl 1 rfl) ?_
  refine va_get (D := g.1) (ci := 8) (C := "LatticeKeysModel") (T := T_M) (N := 14) hx hb hts (wg_ft i_M) hown hK hP 0 rfl rfl 1 (by decide) (hts _ (wg_t kw_1527)) (fun _ h9 => h9) rfl dM_again_73 ?_
  exact mc_iret hx hb hr hlk hP hD hS () rfl [0] rfl rfl (by omega) (by omega) dM_again_76
set_option maxHeartbeats 400000 in
set_option maxRecDepth 100000 in
theorem x_M_alter (l : Launch) (g : Gd) (sz : Nat) (h0 : Nat) (w : Nat → Nat) (v v2 : Int32)  : Met l y_M_alter w_M_alter ({ frames := 1, cells := 0, slots := 0, locals := 40 } : Room) (va_Pc [.ref h0, .int v, .int v2] (pr (en g) g.1 vcl sz [(h0, .inr (8, [.int 0, .int 0, .int 0, .int 0, .ref (w 0), .ref (w 1), .ref (w 2), .ref (w 3), .ref (w 4), .ref (w 5), .ref (w 6), .ref (w 7), .ref (w 8), .ref (w 9)]))])) (va_Qi (fun (r : Int32) (u : Unit) => r = nI 0) (po g.1 vcl (va_A [(h0, .inr (8, [.int 0, .int 0, .int 0, .int 0, .ref (w 0), .ref (w 1), .ref (w 2), .ref (w 3), .ref (w 4), .ref (w 5), .ref (w 6), .ref (w 7), .ref (w 8), .ref (w 9)]))] sz) (fun (u : Unit) => [(h0, .inr (8, [.int (nI 1), .int 0, .int 0, .int 0, .ref (w 0), .ref (w 1), .ref (w 2), .ref (w 3), .ref (w 4), .ref (w 5), .ref (w 6), .ref (w 7), .ref (w 8), .ref (w 9)]))])) (va_A [(h0, .inr (8, [.int 0, .int 0, .int 0, .int 0, .ref (w 0), .ref (w 1), .ref (w 2), .ref (w 3), .ref (w 4), .ref (w 5), .ref (w 6), .ref (w 7), .ref (w 8), .ref (w 9)]))] sz)) 0 0 (va_A [(h0, .inr (8, [.int 0, .int 0, .int 0, .int 0, .ref (w 0), .ref (w 1), .ref (w 2), .ref (w 3), .ref (w 4), .ref (w 5), .ref (w 6), .ref (w 7), .ref (w 8), .ref (w 9)]))] sz) := by
  refine mc_entry (cc := c_M_alter) (maxL := 3) (ret := (some .int)) (by decide) rfl (Nat.le_of_ble_eq_true rfl) ?_
  intro p e s m args below meth c ls F hr hlk hnm hsz hP hD hE hA hl
  obtain ⟨hx, hb, hml, hown, hts⟩ := id F
  have hK := hE.1
  generalize va_A [(h0, .inr (8, [.int 0, .int 0, .int 0, .int 0, .ref (w 0), .ref (w 1), .ref (w 2), .ref (w 3), .ref (w 4), .ref (w 5), .ref (w 6), .ref (w 7), .ref (w 8), .ref (w 9)]))] sz = A at hD hE hA ⊢
  have hS : va_S A s.heap s.heap [] := va_S.rf
  have hl : lv_has ls 3 [(0, .ref h0), (1, .int v), (2, .int v2)] := hl
  refine lv_aload_n hx hb dM_alter_0 rfl (lv_at hl 0 rfl) ?_
  refine lv_iconst (v := nI 0) hx hb dM_alter_1 (by decide) ?_
  refine va_put (D := g.1) (ci := 8) (v := .int (nI 0)) (ty := .int) (C := "LatticeKeysModel") (T := T_M) (N := 14) hx hb hts (wg_ft i_M) ty_M k_M n_M hown hK hP hD hS 0 rfl rfl 0 (by decide) (hts _ (wg_t kw_1526)) (fun _ h9 => h9) rfl (by decide +kernel) rfl rfl (Nat.le_of_ble_eq_true rfl) dM_alter_2 (fun H locs hP hD hS => ?_)
  have hP : va_P g.1 vcl [(h0, .inr (8, [.int (nI 0), .int 0, .int 0, .int 0, .ref (w 0), .ref (w 1), .ref (w 2), .ref (w 3), .ref (w 4), .ref (w 5), .ref (w 6), .ref (w 7), .ref (w 8), .ref (w 9)]))] _ := hP
  have hD : va_D _ [(h0, .inr (8, [.int (nI 0), .int 0, .int 0, .int 0, .ref (w 0), .ref (w 1), .ref (w 2), .ref (w 3), .ref (w 4), .ref (w 5), .ref (w 6), .ref (w 7), .ref (w 8), .ref (w 9)]))] := hD
  refine lv_iload_n hx hb dM_alter_5 rfl (lv_at hl 1 rfl) ?_
  refine lv_if_lt (tgt := 17) hx hb dM_alter_6 (by decide) (fun h1 => ?_) (fun h1 => ?_)
  · refine lv_aload_n hx hb dM_alter_17 rfl (lv_at hl 0 rfl) ?_
    refine lv_iconst (v := nI 1) hx hb dM_alter_18 (by decide) ?_
    refine mc_i (wc := [(h0, .inr (8, [.int (nI 0), .int 0, .int 0, .int 0, .ref (w 0), .ref (w 1), .ref (w 2), .ref (w 3), .ref (w 4), .ref (w 5), .ref (w 6), .ref (w 7), .ref (w 8), .ref (w 9)]))]) (wr := []) hP hD hS hA [0] [] rfl rfl rfl (by decide) (va_runV (As := [.int (nI 1)]) (rest := []) F (m_M_fail l g _ h0 w (nI 0) 0 0 0 (nI 1)) (cwV 1 hts (wg_app (wg_c kw_1577 (wg_c kw_1579 (wg_c ks_50 (wg_c kw_9 wg_n)))) kw_1580) rfl rfl rfl (by decide +kernel) ⟨by decide, by decide⟩) (pr_V (en_ok g) (q0 := 0) hK hP hD hS hA hE [0] rfl rfl rfl rfl) rfl rfl hl.1 rfl (lv_room (Nat.le_of_ble_eq_true rfl)) dM_alter_19 ⟨(by decide), (by decide)⟩) (fun r1 u1 H locs hu1 hP hD hS => ?_)
    subst hu1
    have hP : va_P g.1 vcl [(h0, .inr (8, [.int (nI 1), .int 0, .int 0, .int 0, .ref (w 0), .ref (w 1), .ref (w 2), .ref (w 3), .ref (w 4), .ref (w 5), .ref (w 6), .ref (w 7), .ref (w 8), .ref (w 9)]))] _ := hP
    have hD : va_D _ [(h0, .inr (8, [.int (nI 1), .int 0, .int 0, .int 0, .ref (w 0), .ref (w 1), .ref (w 2), .ref (w 3), .ref (w 4), .ref (w 5), .ref (w 6), .ref (w 7), .ref (w 8), .ref (w 9)]))] := hD
    refine W.widen (k := 0) (n := 0) (by omega) (by omega) ?_
    exact mc_iret hx hb hr hlk hP hD hS () rfl [0] rfl rfl (by omega) (by omega) dM_alter_22
  · refine lv_iload_n hx hb dM_alter_9 rfl (lv_at hl 1 rfl) ?_
    refine lv_aload_n hx hb dM_alter_10 rfl (lv_at hl 0 rfl) ?_
    refine va_get (D := g.1) (ci := 8) (C := "LatticeKeysModel") (T := T_M) (N := 14) hx hb hts (wg_ft i_M) hown hK hP 0 rfl rfl 1 (by decide) (hts _ (wg_t kw_1527)) (fun _ h9 => h9) rfl dM_alter_11 ?_
    refine mi_as (show (0 : Int32) = nI 0 from rfl) ?_
    refine lv_icmp_lt (tgt := 23) hx hb dM_alter_14 (by decide) (fun h2 => absurd h2 h1) (fun h2 => ?_)
    refine lv_aload_n hx hb dM_alter_17 rfl (lv_at hl 0 rfl) ?_
    refine lv_iconst (v := nI 1) hx hb dM_alter_18 (by decide) ?_
    refine mc_i (wc := [(h0, .inr (8, [.int (nI 0), .int 0, .int 0, .int 0, .ref (w 0), .ref (w 1), .ref (w 2), .ref (w 3), .ref (w 4), .ref (w 5), .ref (w 6), .ref (w 7), .ref (w 8), .ref (w 9)]))]) (wr := []) hP hD hS hA [0] [] rfl rfl rfl (by decide) (va_runV (As := [.int (nI 1)]) (rest := []) F (m_M_fail l g _ h0 w (nI 0) 0 0 0 (nI 1)) (cwV 1 hts (wg_app (wg_c kw_1577 (wg_c kw_1579 (wg_c ks_50 (wg_c kw_9 wg_n)))) kw_1580) rfl rfl rfl (by decide +kernel) ⟨by decide, by decide⟩) (pr_V (en_ok g) (q0 := 0) hK hP hD hS hA hE [0] rfl rfl rfl rfl) rfl rfl hl.1 rfl (lv_room (Nat.le_of_ble_eq_true rfl)) dM_alter_19 ⟨(by decide), (by decide)⟩) (fun r2 u2 H locs hu2 hP hD hS => ?_)
    subst hu2
    have hP : va_P g.1 vcl [(h0, .inr (8, [.int (nI 1), .int 0, .int 0, .int 0, .ref (w 0), .ref (w 1), .ref (w 2), .ref (w 3), .ref (w 4), .ref (w 5), .ref (w 6), .ref (w 7), .ref (w 8), .ref (w 9)]))] _ := hP
    have hD : va_D _ [(h0, .inr (8, [.int (nI 1), .int 0, .int 0, .int 0, .ref (w 0), .ref (w 1), .ref (w 2), .ref (w 3), .ref (w 4), .ref (w 5), .ref (w 6), .ref (w 7), .ref (w 8), .ref (w 9)]))] := hD
    refine W.widen (k := 0) (n := 0) (by omega) (by omega) ?_
    exact mc_iret hx hb hr hlk hP hD hS () rfl [0] rfl rfl (by omega) (by omega) dM_alter_22
set_option maxHeartbeats 400000 in
set_option maxRecDepth 100000 in
theorem x_M_keys (l : Launch) (g : Gd) (sz : Nat) (h0 : Nat) (w : Nat → Nat) (v : Int32)  : Met l y_M_keys w_M_keys ({ frames := 1, cells := 0, slots := 0, locals := 40 } : Room) (va_Pc [.ref h0, .int v] (pr (en g) g.1 vcl sz [(h0, .inr (8, [.int 0, .int 0, .int 0, .int 0, .ref (w 0), .ref (w 1), .ref (w 2), .ref (w 3), .ref (w 4), .ref (w 5), .ref (w 6), .ref (w 7), .ref (w 8), .ref (w 9)]))])) (va_Qi (fun (r : Int32) (u : Unit) => r = nI 0) (po g.1 vcl (va_A [(h0, .inr (8, [.int 0, .int 0, .int 0, .int 0, .ref (w 0), .ref (w 1), .ref (w 2), .ref (w 3), .ref (w 4), .ref (w 5), .ref (w 6), .ref (w 7), .ref (w 8), .ref (w 9)]))] sz) (fun (u : Unit) => [(h0, .inr (8, [.int (nI 1), .int 0, .int 0, .int 0, .ref (w 0), .ref (w 1), .ref (w 2), .ref (w 3), .ref (w 4), .ref (w 5), .ref (w 6), .ref (w 7), .ref (w 8), .ref (w 9)]))])) (va_A [(h0, .inr (8, [.int 0, .int 0, .int 0, .int 0, .ref (w 0), .ref (w 1), .ref (w 2), .ref (w 3), .ref (w 4), .ref (w 5), .ref (w 6), .ref (w 7), .ref (w 8), .ref (w 9)]))] sz)) 0 0 (va_A [(h0, .inr (8, [.int 0, .int 0, .int 0, .int 0, .ref (w 0), .ref (w 1), .ref (w 2), .ref (w 3), .ref (w 4), .ref (w 5), .ref (w 6), .ref (w 7), .ref (w 8), .ref (w 9)]))] sz) := by
  refine mc_entry (cc := c_M_keys) (maxL := 2) (ret := (some .int)) (by decide) rfl (Nat.le_of_ble_eq_true rfl) ?_
  intro p e s m args below meth c ls F hr hlk hnm hsz hP hD hE hA hl
  obtain ⟨hx, hb, hml, hown, hts⟩ := id F
  have hK := hE.1
  generalize va_A [(h0, .inr (8, [.int 0, .int 0, .int 0, .int 0, .ref (w 0), .ref (w 1), .ref (w 2), .ref (w 3), .ref (w 4), .ref (w 5), .ref (w 6), .ref (w 7), .ref (w 8), .ref (w 9)]))] sz = A at hD hE hA ⊢
  have hS : va_S A s.heap s.heap [] := va_S.rf
  have hl : lv_has ls 2 [(0, .ref h0), (1, .int v)] := hl
  refine lv_aload_n hx hb dM_keys_0 rfl (lv_at hl 0 rfl) ?_
  refine lv_iconst (v := nI 0) hx hb dM_keys_1 (by decide) ?_
  refine va_put (D := g.1) (ci := 8) (v := .int (nI 0)) (ty := .int) (C := "LatticeKeysModel") (T := T_M) (N := 14) hx hb hts (wg_ft i_M) ty_M k_M n_M hown hK hP hD hS 0 rfl rfl 0 (by decide) (hts _ (wg_t kw_1526)) (fun _ h9 => h9) rfl (by decide +kernel) rfl rfl (Nat.le_of_ble_eq_true rfl) dM_keys_2 (fun H locs hP hD hS => ?_)
  have hP : va_P g.1 vcl [(h0, .inr (8, [.int (nI 0), .int 0, .int 0, .int 0, .ref (w 0), .ref (w 1), .ref (w 2), .ref (w 3), .ref (w 4), .ref (w 5), .ref (w 6), .ref (w 7), .ref (w 8), .ref (w 9)]))] _ := hP
  have hD : va_D _ [(h0, .inr (8, [.int (nI 0), .int 0, .int 0, .int 0, .ref (w 0), .ref (w 1), .ref (w 2), .ref (w 3), .ref (w 4), .ref (w 5), .ref (w 6), .ref (w 7), .ref (w 8), .ref (w 9)]))] := hD
  refine lv_iload_n hx hb dM_keys_5 rfl (lv_at hl 1 rfl) ?_
  refine lv_if_lt (tgt := 33) hx hb dM_keys_6 (by decide) (fun h1 => ?_) (fun h1 => ?_)
  · refine lv_aload_n hx hb dM_keys_33 rfl (lv_at hl 0 rfl) ?_
    refine lv_iconst (v := nI 1) hx hb dM_keys_34 (by decide) ?_
    refine mc_i (wc := [(h0, .inr (8, [.int (nI 0), .int 0, .int 0, .int 0, .ref (w 0), .ref (w 1), .ref (w 2), .ref (w 3), .ref (w 4), .ref (w 5), .ref (w 6), .ref (w 7), .ref (w 8), .ref (w 9)]))]) (wr := []) hP hD hS hA [0] [] rfl rfl rfl (by decide) (va_runV (As := [.int (nI 1)]) (rest := []) F (m_M_fail l g _ h0 w (nI 0) 0 0 0 (nI 1)) (cwV 1 hts (wg_app (wg_c kw_1577 (wg_c kw_1579 (wg_c ks_50 (wg_c kw_9 wg_n)))) kw_1580) rfl rfl rfl (by decide +kernel) ⟨by decide, by decide⟩) (pr_V (en_ok g) (q0 := 0) hK hP hD hS hA hE [0] rfl rfl rfl rfl) rfl rfl hl.1 rfl (lv_room (Nat.le_of_ble_eq_true rfl)) dM_keys_35 ⟨(by decide), (by decide)⟩) (fun r1 u1 H locs hu1 hP hD hS => ?_)
    subst hu1
    have hP : va_P g.1 vcl [(h0, .inr (8, [.int (nI 1), .int 0, .int 0, .int 0, .ref (w 0), .ref (w 1), .ref (w 2), .ref (w 3), .ref (w 4), .ref (w 5), .ref (w 6), .ref (w 7), .ref (w 8), .ref (w 9)]))] _ := hP
    have hD : va_D _ [(h0, .inr (8, [.int (nI 1), .int 0, .int 0, .int 0, .ref (w 0), .ref (w 1), .ref (w 2), .ref (w 3), .ref (w 4), .ref (w 5), .ref (w 6), .ref (w 7), .ref (w 8), .ref (w 9)]))] := hD
    refine W.widen (k := 0) (n := 0) (by omega) (by omega) ?_
    exact mc_iret hx hb hr hlk hP hD hS () rfl [0] rfl rfl (by omega) (by omega) dM_keys_38
  · refine lv_iload_n hx hb dM_keys_9 rfl (lv_at hl 1 rfl) ?_
    refine lv_iconst (v := nI 5) hx hb dM_keys_10 (by decide) ?_
    refine lv_icmp_gt (tgt := 33) hx hb dM_keys_11 (by decide) (fun h2 => ?_) (fun h2 => ?_)
    · refine lv_aload_n hx hb dM_keys_33 rfl (lv_at hl 0 rfl) ?_
      refine lv_iconst (v := nI 1) hx hb dM_keys_34 (by decide) ?_
      refine mc_i (wc := [(h0, .inr (8, [.int (nI 0), .int 0, .int 0, .int 0, .ref (w 0), .ref (w 1), .ref (w 2), .ref (w 3), .ref (w 4), .ref (w 5), .ref (w 6), .ref (w 7), .ref (w 8), .ref (w 9)]))]) (wr := []) hP hD hS hA [0] [] rfl rfl rfl (by decide) (va_runV (As := [.int (nI 1)]) (rest := []) F (m_M_fail l g _ h0 w (nI 0) 0 0 0 (nI 1)) (cwV 1 hts (wg_app (wg_c kw_1577 (wg_c kw_1579 (wg_c ks_50 (wg_c kw_9 wg_n)))) kw_1580) rfl rfl rfl (by decide +kernel) ⟨by decide, by decide⟩) (pr_V (en_ok g) (q0 := 0) hK hP hD hS hA hE [0] rfl rfl rfl rfl) rfl rfl hl.1 rfl (lv_room (Nat.le_of_ble_eq_true rfl)) dM_keys_35 ⟨(by decide), (by decide)⟩) (fun r2 u2 H locs hu2 hP hD hS => ?_)
      subst hu2
      have hP : va_P g.1 vcl [(h0, .inr (8, [.int (nI 1), .int 0, .int 0, .int 0, .ref (w 0), .ref (w 1), .ref (w 2), .ref (w 3), .ref (w 4), .ref (w 5), .ref (w 6), .ref (w 7), .ref (w 8), .ref (w 9)]))] _ := hP
      have hD : va_D _ [(h0, .inr (8, [.int (nI 1), .int 0, .int 0, .int 0, .ref (w 0), .ref (w 1), .ref (w 2), .ref (w 3), .ref (w 4), .ref (w 5), .ref (w 6), .ref (w 7), .ref (w 8), .ref (w 9)]))] := hD
      refine W.widen (k := 0) (n := 0) (by omega) (by omega) ?_
      exact mc_iret hx hb hr hlk hP hD hS () rfl [0] rfl rfl (by omega) (by omega) dM_keys_38
    · refine lv_aload_n hx hb dM_keys_14 rfl (lv_at hl 0 rfl) ?_
      refine va_get (D := g.1) (ci := 8) (C := "LatticeKeysModel") (T := T_M) (N := 14) hx hb hts (wg_ft i_M) hown hK hP 0 rfl rfl 1 (by decide) (hts _ (wg_t kw_1527)) (fun _ h9 => h9) rfl dM_keys_15 ?_
      refine mi_as (show (0 : Int32) = nI 0 from rfl) ?_
      refine lv_iload_n hx hb dM_keys_18 rfl (lv_at hl 1 rfl) ?_
      refine lv_iconst (v := nI 3) hx hb dM_keys_19 (by decide) ?_
      refine lv_icmp_ge (tgt := 28) hx hb dM_keys_20 (by decide) (fun h3 => ?_) (fun h3 => ?_)
      · refine lv_bipush (v := nI 32) hx hb dM_keys_28 (by decide) ?_
        refine mi_eq (tgt := 39) hx hb dM_keys_30 (by decide) (by omega) (by omega) (fun h4 => absurd h4 (by omega)) (fun h4 => ?_)
        refine lv_aload_n hx hb dM_keys_33 rfl (lv_at hl 0 rfl) ?_
        refine lv_iconst (v := nI 1) hx hb dM_keys_34 (by decide) ?_
        refine mc_i (wc := [(h0, .inr (8, [.int (nI 0), .int 0, .int 0, .int 0, .ref (w 0), .ref (w 1), .ref (w 2), .ref (w 3), .ref (w 4), .ref (w 5), .ref (w 6), .ref (w 7), .ref (w 8), .ref (w 9)]))]) (wr := []) hP hD hS hA [0] [] rfl rfl rfl (by decide) (va_runV (As := [.int (nI 1)]) (rest := []) F (m_M_fail l g _ h0 w (nI 0) 0 0 0 (nI 1)) (cwV 1 hts (wg_app (wg_c kw_1577 (wg_c kw_1579 (wg_c ks_50 (wg_c kw_9 wg_n)))) kw_1580) rfl rfl rfl (by decide +kernel) ⟨by decide, by decide⟩) (pr_V (en_ok g) (q0 := 0) hK hP hD hS hA hE [0] rfl rfl rfl rfl) rfl rfl hl.1 rfl (lv_room (Nat.le_of_ble_eq_true rfl)) dM_keys_35 ⟨(by decide), (by decide)⟩) (fun r3 u3 H locs hu3 hP hD hS => ?_)
        subst hu3
        have hP : va_P g.1 vcl [(h0, .inr (8, [.int (nI 1), .int 0, .int 0, .int 0, .ref (w 0), .ref (w 1), .ref (w 2), .ref (w 3), .ref (w 4), .ref (w 5), .ref (w 6), .ref (w 7), .ref (w 8), .ref (w 9)]))] _ := hP
        have hD : va_D _ [(h0, .inr (8, [.int (nI 1), .int 0, .int 0, .int 0, .ref (w 0), .ref (w 1), .ref (w 2), .ref (w 3), .ref (w 4), .ref (w 5), .ref (w 6), .ref (w 7), .ref (w 8), .ref (w 9)]))] := hD
        refine W.widen (k := 0) (n := 0) (by omega) (by omega) ?_
        exact mc_iret hx hb hr hlk hP hD hS () rfl [0] rfl rfl (by omega) (by omega) dM_keys_38
      · refine lv_bipush (v := nI 64) hx hb dM_keys_23 (by decide) ?_
        refine lv_goto (tgt := 30) hx hb dM_keys_25 (by decide) ?_
        refine mi_eq (tgt := 39) hx hb dM_keys_30 (by decide) (by omega) (by omega) (fun h5 => absurd h5 (by omega)) (fun h5 => ?_)
        refine lv_aload_n hx hb dM_keys_33 rfl (lv_at hl 0 rfl) ?_
        refine lv_iconst (v := nI 1) hx hb dM_keys_34 (by decide) ?_
        refine mc_i (wc := [(h0, .inr (8, [.int (nI 0), .int 0, .int 0, .int 0, .ref (w 0), .ref (w 1), .ref (w 2), .ref (w 3), .ref (w 4), .ref (w 5), .ref (w 6), .ref (w 7), .ref (w 8), .ref (w 9)]))]) (wr := []) hP hD hS hA [0] [] rfl rfl rfl (by decide) (va_runV (As := [.int (nI 1)]) (rest := []) F (m_M_fail l g _ h0 w (nI 0) 0 0 0 (nI 1)) (cwV 1 hts (wg_app (wg_c kw_1577 (wg_c kw_1579 (wg_c ks_50 (wg_c kw_9 wg_n)))) kw_1580) rfl rfl rfl (by decide +kernel) ⟨by decide, by decide⟩) (pr_V (en_ok g) (q0 := 0) hK hP hD hS hA hE [0] rfl rfl rfl rfl) rfl rfl hl.1 rfl (lv_room (Nat.le_of_ble_eq_true rfl)) dM_keys_35 ⟨(by decide), (by decide)⟩) (fun r4 u4 H locs hu4 hP hD hS => ?_)
        subst hu4
        have hP : va_P g.1 vcl [(h0, .inr (8, [.int (nI 1), .int 0, .int 0, .int 0, .ref (w 0), .ref (w 1), .ref (w 2), .ref (w 3), .ref (w 4), .ref (w 5), .ref (w 6), .ref (w 7), .ref (w 8), .ref (w 9)]))] _ := hP
        have hD : va_D _ [(h0, .inr (8, [.int (nI 1), .int 0, .int 0, .int 0, .ref (w 0), .ref (w 1), .ref (w 2), .ref (w 3), .ref (w 4), .ref (w 5), .ref (w 6), .ref (w 7), .ref (w 8), .ref (w 9)]))] := hD
        refine W.widen (k := 0) (n := 0) (by omega) (by omega) ?_
        exact mc_iret hx hb hr hlk hP hD hS () rfl [0] rfl rfl (by omega) (by omega) dM_keys_38
theorem upto {v : Int32} (h : ¬ v < 0) (n : Nat) (hn : n < 2 ^ 30) (h2 : ¬ nI n < v) : ∃ j : Nat, j < n + 1 ∧ v = nI j := by
  obtain ⟨j, hj, e⟩ := nI_of2 (M := nI n) (n := n) (nI_toInt (by omega)) h (by rw [Int32.lt_iff_toInt_lt] at h2; rw [Int32.le_iff_toInt_le]; omega)
  exact ⟨j, by omega, e⟩
set_option maxHeartbeats 400000 in
set_option maxRecDepth 100000 in
theorem x_M_load (l : Launch) (g : Gd) (sz : Nat) (h0 : Nat) (w : Nat → Nat) (v v2 : Int32)  : Met l y_M_load w_M_load ({ frames := 2, cells := 0, slots := 0, locals := 60 } : Room) (va_Pc [.ref h0, .int v, .int v2] (pr (en g) g.1 vcl sz [(h0, .inr (8, [.int 0, .int 0, .int 0, .int 0, .ref (w 0), .ref (w 1), .ref (w 2), .ref (w 3), .ref (w 4), .ref (w 5), .ref (w 6), .ref (w 7), .ref (w 8), .ref (w 9)]))])) (va_Qi (fun (r : Int32) (u : Unit) => r = nI 0) (po g.1 vcl (va_A [(h0, .inr (8, [.int 0, .int 0, .int 0, .int 0, .ref (w 0), .ref (w 1), .ref (w 2), .ref (w 3), .ref (w 4), .ref (w 5), .ref (w 6), .ref (w 7), .ref (w 8), .ref (w 9)]))] sz) (fun (u : Unit) => [(h0, .inr (8, [.int (nI 1), .int 0, .int 0, .int 0, .ref (w 0), .ref (w 1), .ref (w 2), .ref (w 3), .ref (w 4), .ref (w 5), .ref (w 6), .ref (w 7), .ref (w 8), .ref (w 9)]))])) (va_A [(h0, .inr (8, [.int 0, .int 0, .int 0, .int 0, .ref (w 0), .ref (w 1), .ref (w 2), .ref (w 3), .ref (w 4), .ref (w 5), .ref (w 6), .ref (w 7), .ref (w 8), .ref (w 9)]))] sz)) 0 0 (va_A [(h0, .inr (8, [.int 0, .int 0, .int 0, .int 0, .ref (w 0), .ref (w 1), .ref (w 2), .ref (w 3), .ref (w 4), .ref (w 5), .ref (w 6), .ref (w 7), .ref (w 8), .ref (w 9)]))] sz) := by
  refine mc_entry (cc := c_M_load) (maxL := 5) (ret := (some .int)) (by decide) rfl (Nat.le_of_ble_eq_true rfl) ?_
  intro p e s m args below meth c ls F hr hlk hnm hsz hP hD hE hA hl
  obtain ⟨hx, hb, hml, hown, hts⟩ := id F
  have hK := hE.1
  generalize va_A [(h0, .inr (8, [.int 0, .int 0, .int 0, .int 0, .ref (w 0), .ref (w 1), .ref (w 2), .ref (w 3), .ref (w 4), .ref (w 5), .ref (w 6), .ref (w 7), .ref (w 8), .ref (w 9)]))] sz = A at hD hE hA ⊢
  have hS : va_S A s.heap s.heap [] := va_S.rf
  have hl : lv_has ls 5 [(0, .ref h0), (1, .int v), (2, .int v2)] := hl
  refine lv_aload_n hx hb dM_load_0 rfl (lv_at hl 0 rfl) ?_
  refine lv_iconst (v := nI 0) hx hb dM_load_1 (by decide) ?_
  refine va_put (D := g.1) (ci := 8) (v := .int (nI 0)) (ty := .int) (C := "LatticeKeysModel") (T := T_M) (N := 14) hx hb hts (wg_ft i_M) ty_M k_M n_M hown hK hP hD hS 0 rfl rfl 0 (by decide) (hts _ (wg_t kw_1526)) (fun _ h9 => h9) rfl (by decide +kernel) rfl rfl (Nat.le_of_ble_eq_true rfl) dM_load_2 (fun H locs hP hD hS => ?_)
  have hP : va_P g.1 vcl [(h0, .inr (8, [.int (nI 0), .int 0, .int 0, .int 0, .ref (w 0), .ref (w 1), .ref (w 2), .ref (w 3), .ref (w 4), .ref (w 5), .ref (w 6), .ref (w 7), .ref (w 8), .ref (w 9)]))] _ := hP
  have hD : va_D _ [(h0, .inr (8, [.int (nI 0), .int 0, .int 0, .int 0, .ref (w 0), .ref (w 1), .ref (w 2), .ref (w 3), .ref (w 4), .ref (w 5), .ref (w 6), .ref (w 7), .ref (w 8), .ref (w 9)]))] := hD
  refine lv_iload_n hx hb dM_load_5 rfl (lv_at hl 1 rfl) ?_
  refine lv_if_lt (tgt := 44) hx hb dM_load_6 (by decide) (fun h1 => ?_) (fun h1 => ?_)
  · refine lv_aload_n hx hb dM_load_44 rfl (lv_at hl 0 rfl) ?_
    refine lv_iconst (v := nI 1) hx hb dM_load_45 (by decide) ?_
    refine mc_i (wc := [(h0, .inr (8, [.int (nI 0), .int 0, .int 0, .int 0, .ref (w 0), .ref (w 1), .ref (w 2), .ref (w 3), .ref (w 4), .ref (w 5), .ref (w 6), .ref (w 7), .ref (w 8), .ref (w 9)]))]) (wr := []) hP hD hS hA [0] [] rfl rfl rfl (by decide) (va_runV (As := [.int (nI 1)]) (rest := []) F (m_M_fail l g _ h0 w (nI 0) 0 0 0 (nI 1)) (cwV 1 hts (wg_app (wg_c kw_1577 (wg_c kw_1579 (wg_c ks_50 (wg_c kw_9 wg_n)))) kw_1580) rfl rfl rfl (by decide +kernel) ⟨by decide, by decide⟩) (pr_V (en_ok g) (q0 := 0) hK hP hD hS hA hE [0] rfl rfl rfl rfl) rfl rfl hl.1 rfl (lv_room (Nat.le_of_ble_eq_true rfl)) dM_load_46 ⟨(by decide), (by decide)⟩) (fun r1 u1 H locs hu1 hP hD hS => ?_)
    subst hu1
    have hP : va_P g.1 vcl [(h0, .inr (8, [.int (nI 1), .int 0, .int 0, .int 0, .ref (w 0), .ref (w 1), .ref (w 2), .ref (w 3), .ref (w 4), .ref (w 5), .ref (w 6), .ref (w 7), .ref (w 8), .ref (w 9)]))] _ := hP
    have hD : va_D _ [(h0, .inr (8, [.int (nI 1), .int 0, .int 0, .int 0, .ref (w 0), .ref (w 1), .ref (w 2), .ref (w 3), .ref (w 4), .ref (w 5), .ref (w 6), .ref (w 7), .ref (w 8), .ref (w 9)]))] := hD
    refine W.widen (k := 0) (n := 0) (by omega) (by omega) ?_
    exact mc_iret hx hb hr hlk hP hD hS () rfl [0] rfl rfl (by omega) (by omega) dM_load_49
  · refine lv_iload_n hx hb dM_load_9 rfl (lv_at hl 1 rfl) ?_
    refine lv_iload_n hx hb dM_load_10 rfl (lv_at hl 2 rfl) ?_
    refine lv_if_eq (tgt := 18) hx hb dM_load_11 (by decide) (fun h2 => ?_) (fun h2 => ?_)
    · refine lv_iconst (v := nI 5) hx hb dM_load_18 (by decide) ?_
      refine lv_icmp_gt (tgt := 44) hx hb dM_load_19 (by decide) (fun h3 => ?_) (fun h3 => ?_)
      · refine lv_aload_n hx hb dM_load_44 rfl (lv_at hl 0 rfl) ?_
        refine lv_iconst (v := nI 1) hx hb dM_load_45 (by decide) ?_
        refine mc_i (wc := [(h0, .inr (8, [.int (nI 0), .int 0, .int 0, .int 0, .ref (w 0), .ref (w 1), .ref (w 2), .ref (w 3), .ref (w 4), .ref (w 5), .ref (w 6), .ref (w 7), .ref (w 8), .ref (w 9)]))]) (wr := []) hP hD hS hA [0] [] rfl rfl rfl (by decide) (va_runV (As := [.int (nI 1)]) (rest := []) F (m_M_fail l g _ h0 w (nI 0) 0 0 0 (nI 1)) (cwV 1 hts (wg_app (wg_c kw_1577 (wg_c kw_1579 (wg_c ks_50 (wg_c kw_9 wg_n)))) kw_1580) rfl rfl rfl (by decide +kernel) ⟨by decide, by decide⟩) (pr_V (en_ok g) (q0 := 0) hK hP hD hS hA hE [0] rfl rfl rfl rfl) rfl rfl hl.1 rfl (lv_room (Nat.le_of_ble_eq_true rfl)) dM_load_46 ⟨(by decide), (by decide)⟩) (fun r2 u2 H locs hu2 hP hD hS => ?_)
        subst hu2
        have hP : va_P g.1 vcl [(h0, .inr (8, [.int (nI 1), .int 0, .int 0, .int 0, .ref (w 0), .ref (w 1), .ref (w 2), .ref (w 3), .ref (w 4), .ref (w 5), .ref (w 6), .ref (w 7), .ref (w 8), .ref (w 9)]))] _ := hP
        have hD : va_D _ [(h0, .inr (8, [.int (nI 1), .int 0, .int 0, .int 0, .ref (w 0), .ref (w 1), .ref (w 2), .ref (w 3), .ref (w 4), .ref (w 5), .ref (w 6), .ref (w 7), .ref (w 8), .ref (w 9)]))] := hD
        refine W.widen (k := 0) (n := 0) (by omega) (by omega) ?_
        exact mc_iret hx hb hr hlk hP hD hS () rfl [0] rfl rfl (by omega) (by omega) dM_load_49
      · obtain ⟨j, hj, ej⟩ := upto h1 5 (by decide) h3
        subst ej
        refine lv_aload_n hx hb dM_load_22 rfl (lv_at hl 0 rfl) ?_
        refine va_get (D := g.1) (ci := 8) (C := "LatticeKeysModel") (T := T_M) (N := 14) hx hb hts (wg_ft i_M) hown hK hP 0 rfl rfl 1 (by decide) (hts _ (wg_t kw_1527)) (fun _ h9 => h9) rfl dM_load_23 ?_
        refine mi_as (show (0 : Int32) = nI 0 from rfl) ?_
        refine lv_iload_n hx hb dM_load_26 rfl (lv_at hl 2 rfl) ?_
        refine lv_if_eq (tgt := 37) hx hb dM_load_27 (by decide) (fun h4 => ?_) (fun h4 => absurd h2 h4)
        refine lv_iload_n hx hb dM_load_37 rfl (lv_at hl 1 rfl) ?_
        refine mr_i (wc := []) (wr := [(h0, .inr (8, [.int (nI 0), .int 0, .int 0, .int 0, .ref (w 0), .ref (w 1), .ref (w 2), .ref (w 3), .ref (w 4), .ref (w 5), .ref (w 6), .ref (w 7), .ref (w 8), .ref (w 9)]))]) hP hD hS hA [] [0] rfl rfl rfl (by decide) (va_runS (As := [.int (nI j)]) (rest := [.int (nI 0)]) F (m_M_openSize l g _ j (by omega)) (va_cwS 1 hts (wg_app (wg_c kw_1764 (wg_c kw_1765 (wg_c kw_9 wg_n))) kw_1766) rfl rfl rfl (by decide +kernel) ⟨by decide, by decide⟩) (pr_S (en_ok g) hP hD hS hA hE [] rfl rfl) rfl rfl hl.1 rfl (lv_room (Nat.le_of_ble_eq_true rfl)) dM_load_38 ⟨(by decide), (by decide)⟩) (fun r3 u3 H hu3 hP hD hS => ?_)
        have hP : va_P g.1 vcl [(h0, .inr (8, [.int (nI 0), .int 0, .int 0, .int 0, .ref (w 0), .ref (w 1), .ref (w 2), .ref (w 3), .ref (w 4), .ref (w 5), .ref (w 6), .ref (w 7), .ref (w 8), .ref (w 9)]))] _ := hP
        have hD : va_D _ [(h0, .inr (8, [.int (nI 0), .int 0, .int 0, .int 0, .ref (w 0), .ref (w 1), .ref (w 2), .ref (w 3), .ref (w 4), .ref (w 5), .ref (w 6), .ref (w 7), .ref (w 8), .ref (w 9)]))] := hD
        refine W.widen (k := 0) (n := 0) (by omega) (by omega) ?_
        refine lv_icmp_eq (tgt := 50) hx hb dM_load_41 (by decide) (fun h5 => absurd h5 hu3) (fun h5 => ?_)
        refine lv_aload_n hx hb dM_load_44 rfl (lv_at hl 0 rfl) ?_
        refine lv_iconst (v := nI 1) hx hb dM_load_45 (by decide) ?_
        refine mc_i (wc := [(h0, .inr (8, [.int (nI 0), .int 0, .int 0, .int 0, .ref (w 0), .ref (w 1), .ref (w 2), .ref (w 3), .ref (w 4), .ref (w 5), .ref (w 6), .ref (w 7), .ref (w 8), .ref (w 9)]))]) (wr := []) hP hD hS hA [0] [] rfl rfl rfl (by decide) (va_runV (As := [.int (nI 1)]) (rest := []) F (m_M_fail l g _ h0 w (nI 0) 0 0 0 (nI 1)) (cwV 1 hts (wg_app (wg_c kw_1577 (wg_c kw_1579 (wg_c ks_50 (wg_c kw_9 wg_n)))) kw_1580) rfl rfl rfl (by decide +kernel) ⟨by decide, by decide⟩) (pr_V (en_ok g) (q0 := 0) hK hP hD hS hA hE [0] rfl rfl rfl rfl) rfl rfl hl.1 rfl (lv_room (Nat.le_of_ble_eq_true rfl)) dM_load_46 ⟨(by decide), (by decide)⟩) (fun r4 u4 H locs hu4 hP hD hS => ?_)
        subst hu4
        have hP : va_P g.1 vcl [(h0, .inr (8, [.int (nI 1), .int 0, .int 0, .int 0, .ref (w 0), .ref (w 1), .ref (w 2), .ref (w 3), .ref (w 4), .ref (w 5), .ref (w 6), .ref (w 7), .ref (w 8), .ref (w 9)]))] _ := hP
        have hD : va_D _ [(h0, .inr (8, [.int (nI 1), .int 0, .int 0, .int 0, .ref (w 0), .ref (w 1), .ref (w 2), .ref (w 3), .ref (w 4), .ref (w 5), .ref (w 6), .ref (w 7), .ref (w 8), .ref (w 9)]))] := hD
        refine W.widen (k := 0) (n := 0) (by omega) (by omega) ?_
        exact mc_iret hx hb hr hlk hP hD hS () rfl [0] rfl rfl (by omega) (by omega) dM_load_49
    · refine lv_iconst (v := nI 2) hx hb dM_load_14 (by decide) ?_
      refine lv_goto (tgt := 19) hx hb dM_load_15 (by decide) ?_
      refine lv_icmp_gt (tgt := 44) hx hb dM_load_19 (by decide) (fun h6 => ?_) (fun h6 => ?_)
      · refine lv_aload_n hx hb dM_load_44 rfl (lv_at hl 0 rfl) ?_
        refine lv_iconst (v := nI 1) hx hb dM_load_45 (by decide) ?_
        refine mc_i (wc := [(h0, .inr (8, [.int (nI 0), .int 0, .int 0, .int 0, .ref (w 0), .ref (w 1), .ref (w 2), .ref (w 3), .ref (w 4), .ref (w 5), .ref (w 6), .ref (w 7), .ref (w 8), .ref (w 9)]))]) (wr := []) hP hD hS hA [0] [] rfl rfl rfl (by decide) (va_runV (As := [.int (nI 1)]) (rest := []) F (m_M_fail l g _ h0 w (nI 0) 0 0 0 (nI 1)) (cwV 1 hts (wg_app (wg_c kw_1577 (wg_c kw_1579 (wg_c ks_50 (wg_c kw_9 wg_n)))) kw_1580) rfl rfl rfl (by decide +kernel) ⟨by decide, by decide⟩) (pr_V (en_ok g) (q0 := 0) hK hP hD hS hA hE [0] rfl rfl rfl rfl) rfl rfl hl.1 rfl (lv_room (Nat.le_of_ble_eq_true rfl)) dM_load_46 ⟨(by decide), (by decide)⟩) (fun r5 u5 H locs hu5 hP hD hS => ?_)
        subst hu5
        have hP : va_P g.1 vcl [(h0, .inr (8, [.int (nI 1), .int 0, .int 0, .int 0, .ref (w 0), .ref (w 1), .ref (w 2), .ref (w 3), .ref (w 4), .ref (w 5), .ref (w 6), .ref (w 7), .ref (w 8), .ref (w 9)]))] _ := hP
        have hD : va_D _ [(h0, .inr (8, [.int (nI 1), .int 0, .int 0, .int 0, .ref (w 0), .ref (w 1), .ref (w 2), .ref (w 3), .ref (w 4), .ref (w 5), .ref (w 6), .ref (w 7), .ref (w 8), .ref (w 9)]))] := hD
        refine W.widen (k := 0) (n := 0) (by omega) (by omega) ?_
        exact mc_iret hx hb hr hlk hP hD hS () rfl [0] rfl rfl (by omega) (by omega) dM_load_49
      · obtain ⟨j, hj, ej⟩ := upto h1 2 (by decide) h6
        subst ej
        refine lv_aload_n hx hb dM_load_22 rfl (lv_at hl 0 rfl) ?_
        refine va_get (D := g.1) (ci := 8) (C := "LatticeKeysModel") (T := T_M) (N := 14) hx hb hts (wg_ft i_M) hown hK hP 0 rfl rfl 1 (by decide) (hts _ (wg_t kw_1527)) (fun _ h9 => h9) rfl dM_load_23 ?_
        refine mi_as (show (0 : Int32) = nI 0 from rfl) ?_
        refine lv_iload_n hx hb dM_load_26 rfl (lv_at hl 2 rfl) ?_
        refine lv_if_eq (tgt := 37) hx hb dM_load_27 (by decide) (fun h7 => absurd h7 h2) (fun h7 => ?_)
        refine lv_iload_n hx hb dM_load_30 rfl (lv_at hl 1 rfl) ?_
        refine mr_i (wc := []) (wr := [(h0, .inr (8, [.int (nI 0), .int 0, .int 0, .int 0, .ref (w 0), .ref (w 1), .ref (w 2), .ref (w 3), .ref (w 4), .ref (w 5), .ref (w 6), .ref (w 7), .ref (w 8), .ref (w 9)]))]) hP hD hS hA [] [0] rfl rfl rfl (by decide) (va_runS (As := [.int (nI j)]) (rest := [.int (nI 0)]) F (m_M_hiddenSize l g _ j (by omega)) (va_cwS 1 hts (wg_app (wg_c kw_1747 (wg_c kw_1748 (wg_c kw_9 wg_n))) kw_1749) rfl rfl rfl (by decide +kernel) ⟨by decide, by decide⟩) (pr_S (en_ok g) hP hD hS hA hE [] rfl rfl) rfl rfl hl.1 rfl (lv_room (Nat.le_of_ble_eq_true rfl)) dM_load_31 ⟨(by decide), (by decide)⟩) (fun r6 u6 H hu6 hP hD hS => ?_)
        have hP : va_P g.1 vcl [(h0, .inr (8, [.int (nI 0), .int 0, .int 0, .int 0, .ref (w 0), .ref (w 1), .ref (w 2), .ref (w 3), .ref (w 4), .ref (w 5), .ref (w 6), .ref (w 7), .ref (w 8), .ref (w 9)]))] _ := hP
        have hD : va_D _ [(h0, .inr (8, [.int (nI 0), .int 0, .int 0, .int 0, .ref (w 0), .ref (w 1), .ref (w 2), .ref (w 3), .ref (w 4), .ref (w 5), .ref (w 6), .ref (w 7), .ref (w 8), .ref (w 9)]))] := hD
        refine W.widen (k := 0) (n := 0) (by omega) (by omega) ?_
        refine lv_goto (tgt := 41) hx hb dM_load_34 (by decide) ?_
        refine lv_icmp_eq (tgt := 50) hx hb dM_load_41 (by decide) (fun h8 => absurd h8 hu6) (fun h8 => ?_)
        refine lv_aload_n hx hb dM_load_44 rfl (lv_at hl 0 rfl) ?_
        refine lv_iconst (v := nI 1) hx hb dM_load_45 (by decide) ?_
        refine mc_i (wc := [(h0, .inr (8, [.int (nI 0), .int 0, .int 0, .int 0, .ref (w 0), .ref (w 1), .ref (w 2), .ref (w 3), .ref (w 4), .ref (w 5), .ref (w 6), .ref (w 7), .ref (w 8), .ref (w 9)]))]) (wr := []) hP hD hS hA [0] [] rfl rfl rfl (by decide) (va_runV (As := [.int (nI 1)]) (rest := []) F (m_M_fail l g _ h0 w (nI 0) 0 0 0 (nI 1)) (cwV 1 hts (wg_app (wg_c kw_1577 (wg_c kw_1579 (wg_c ks_50 (wg_c kw_9 wg_n)))) kw_1580) rfl rfl rfl (by decide +kernel) ⟨by decide, by decide⟩) (pr_V (en_ok g) (q0 := 0) hK hP hD hS hA hE [0] rfl rfl rfl rfl) rfl rfl hl.1 rfl (lv_room (Nat.le_of_ble_eq_true rfl)) dM_load_46 ⟨(by decide), (by decide)⟩) (fun r7 u7 H locs hu7 hP hD hS => ?_)
        subst hu7
        have hP : va_P g.1 vcl [(h0, .inr (8, [.int (nI 1), .int 0, .int 0, .int 0, .ref (w 0), .ref (w 1), .ref (w 2), .ref (w 3), .ref (w 4), .ref (w 5), .ref (w 6), .ref (w 7), .ref (w 8), .ref (w 9)]))] _ := hP
        have hD : va_D _ [(h0, .inr (8, [.int (nI 1), .int 0, .int 0, .int 0, .ref (w 0), .ref (w 1), .ref (w 2), .ref (w 3), .ref (w 4), .ref (w 5), .ref (w 6), .ref (w 7), .ref (w 8), .ref (w 9)]))] := hD
        refine W.widen (k := 0) (n := 0) (by omega) (by omega) ?_
        exact mc_iret hx hb hr hlk hP hD hS () rfl [0] rfl rfl (by omega) (by omega) dM_load_49
set_option maxHeartbeats 400000 in
set_option maxRecDepth 100000 in
theorem x_M_part (l : Launch) (g : Gd) (sz : Nat) (h0 : Nat) (w : Nat → Nat) (v1 v2 v3 : Int32)  : Met l y_M_part w_M_part ({ frames := 1, cells := 0, slots := 0, locals := 40 } : Room) (va_Pc [.ref h0, .int v1, .int v2, .int v3] (pr (en g) g.1 vcl sz [(h0, .inr (8, [.int 0, .int 0, .int 0, .int 0, .ref (w 0), .ref (w 1), .ref (w 2), .ref (w 3), .ref (w 4), .ref (w 5), .ref (w 6), .ref (w 7), .ref (w 8), .ref (w 9)]))])) (va_Qi (fun (r : Int32) (u : Unit) => r = nI 0) (po g.1 vcl (va_A [(h0, .inr (8, [.int 0, .int 0, .int 0, .int 0, .ref (w 0), .ref (w 1), .ref (w 2), .ref (w 3), .ref (w 4), .ref (w 5), .ref (w 6), .ref (w 7), .ref (w 8), .ref (w 9)]))] sz) (fun (u : Unit) => [(h0, .inr (8, [.int (nI 1), .int 0, .int 0, .int 0, .ref (w 0), .ref (w 1), .ref (w 2), .ref (w 3), .ref (w 4), .ref (w 5), .ref (w 6), .ref (w 7), .ref (w 8), .ref (w 9)]))])) (va_A [(h0, .inr (8, [.int 0, .int 0, .int 0, .int 0, .ref (w 0), .ref (w 1), .ref (w 2), .ref (w 3), .ref (w 4), .ref (w 5), .ref (w 6), .ref (w 7), .ref (w 8), .ref (w 9)]))] sz)) 0 0 (va_A [(h0, .inr (8, [.int 0, .int 0, .int 0, .int 0, .ref (w 0), .ref (w 1), .ref (w 2), .ref (w 3), .ref (w 4), .ref (w 5), .ref (w 6), .ref (w 7), .ref (w 8), .ref (w 9)]))] sz) := by
  refine mc_entry (cc := c_M_part) (maxL := 4) (ret := (some .int)) (by decide) rfl (Nat.le_of_ble_eq_true rfl) ?_
  intro p e s m args below meth c ls F hr hlk hnm hsz hP hD hE hA hl
  obtain ⟨hx, hb, hml, hown, hts⟩ := id F
  have hK := hE.1
  generalize va_A [(h0, .inr (8, [.int 0, .int 0, .int 0, .int 0, .ref (w 0), .ref (w 1), .ref (w 2), .ref (w 3), .ref (w 4), .ref (w 5), .ref (w 6), .ref (w 7), .ref (w 8), .ref (w 9)]))] sz = A at hD hE hA ⊢
  have hS : va_S A s.heap s.heap [] := va_S.rf
  have hl : lv_has ls 4 [(0, .ref h0), (1, .int v1), (2, .int v2), (3, .int v3)] := hl
  refine lv_aload_n hx hb dM_part_0 rfl (lv_at hl 0 rfl) ?_
  refine lv_iconst (v := nI 0) hx hb dM_part_1 (by decide) ?_
  refine va_put (D := g.1) (ci := 8) (v := .int (nI 0)) (ty := .int) (C := "LatticeKeysModel") (T := T_M) (N := 14) hx hb hts (wg_ft i_M) ty_M k_M n_M hown hK hP hD hS 0 rfl rfl 0 (by decide) (hts _ (wg_t kw_1526)) (fun _ h9 => h9) rfl (by decide +kernel) rfl rfl (Nat.le_of_ble_eq_true rfl) dM_part_2 (fun H locs hP hD hS => ?_)
  have hP : va_P g.1 vcl [(h0, .inr (8, [.int (nI 0), .int 0, .int 0, .int 0, .ref (w 0), .ref (w 1), .ref (w 2), .ref (w 3), .ref (w 4), .ref (w 5), .ref (w 6), .ref (w 7), .ref (w 8), .ref (w 9)]))] _ := hP
  have hD : va_D _ [(h0, .inr (8, [.int (nI 0), .int 0, .int 0, .int 0, .ref (w 0), .ref (w 1), .ref (w 2), .ref (w 3), .ref (w 4), .ref (w 5), .ref (w 6), .ref (w 7), .ref (w 8), .ref (w 9)]))] := hD
  refine lv_aload_n hx hb dM_part_5 rfl (lv_at hl 0 rfl) ?_
  refine lv_iload_n hx hb dM_part_6 rfl (lv_at hl 1 rfl) ?_
  refine mr_i (wc := [(h0, .inr (8, [.int (nI 0), .int 0, .int 0, .int 0, .ref (w 0), .ref (w 1), .ref (w 2), .ref (w 3), .ref (w 4), .ref (w 5), .ref (w 6), .ref (w 7), .ref (w 8), .ref (w 9)]))]) (wr := []) hP hD hS hA [0] [] rfl rfl rfl (by decide) (va_runV (As := [.int v1]) (rest := []) F (m_M_none l g _ h0 w (nI 0) 0 0 v1) (cwV 1 hts (wg_app (wg_c kw_1781 (wg_c kw_1783 (wg_c ks_65 (wg_c kw_9 wg_n)))) kw_1784) rfl rfl rfl (by decide +kernel) ⟨by decide, by decide⟩) (pr_V (en_ok g) (q0 := 0) hK hP hD hS hA hE [0] rfl rfl rfl rfl) rfl rfl hl.1 rfl (lv_room (Nat.le_of_ble_eq_true rfl)) dM_part_7 ⟨(by decide), (by decide)⟩) (fun r1 u1 H hu1 hP hD hS => ?_)
  subst hu1
  have hP : va_P g.1 vcl [(h0, .inr (8, [.int (nI 0), .int 0, .int 0, .int 0, .ref (w 0), .ref (w 1), .ref (w 2), .ref (w 3), .ref (w 4), .ref (w 5), .ref (w 6), .ref (w 7), .ref (w 8), .ref (w 9)]))] _ := hP
  have hD : va_D _ [(h0, .inr (8, [.int (nI 0), .int 0, .int 0, .int 0, .ref (w 0), .ref (w 1), .ref (w 2), .ref (w 3), .ref (w 4), .ref (w 5), .ref (w 6), .ref (w 7), .ref (w 8), .ref (w 9)]))] := hD
  refine W.widen (k := 0) (n := 0) (by omega) (by omega) ?_
  refine lv_if_ne (tgt := 22) hx hb dM_part_10 (by decide) (fun h1 => ?_) (fun h1 => absurd h1 (by decide))
  refine lv_aload_n hx hb dM_part_22 rfl (lv_at hl 0 rfl) ?_
  refine lv_iconst (v := nI 1) hx hb dM_part_23 (by decide) ?_
  refine mc_i (wc := [(h0, .inr (8, [.int (nI 0), .int 0, .int 0, .int 0, .ref (w 0), .ref (w 1), .ref (w 2), .ref (w 3), .ref (w 4), .ref (w 5), .ref (w 6), .ref (w 7), .ref (w 8), .ref (w 9)]))]) (wr := []) hP hD hS hA [0] [] rfl rfl rfl (by decide) (va_runV (As := [.int (nI 1)]) (rest := []) F (m_M_fail l g _ h0 w (nI 0) 0 0 0 (nI 1)) (cwV 1 hts (wg_app (wg_c kw_1577 (wg_c kw_1579 (wg_c ks_50 (wg_c kw_9 wg_n)))) kw_1580) rfl rfl rfl (by decide +kernel) ⟨by decide, by decide⟩) (pr_V (en_ok g) (q0 := 0) hK hP hD hS hA hE [0] rfl rfl rfl rfl) rfl rfl hl.1 rfl (lv_room (Nat.le_of_ble_eq_true rfl)) dM_part_24 ⟨(by decide), (by decide)⟩) (fun r2 u2 H locs hu2 hP hD hS => ?_)
  subst hu2
  have hP : va_P g.1 vcl [(h0, .inr (8, [.int (nI 1), .int 0, .int 0, .int 0, .ref (w 0), .ref (w 1), .ref (w 2), .ref (w 3), .ref (w 4), .ref (w 5), .ref (w 6), .ref (w 7), .ref (w 8), .ref (w 9)]))] _ := hP
  have hD : va_D _ [(h0, .inr (8, [.int (nI 1), .int 0, .int 0, .int 0, .ref (w 0), .ref (w 1), .ref (w 2), .ref (w 3), .ref (w 4), .ref (w 5), .ref (w 6), .ref (w 7), .ref (w 8), .ref (w 9)]))] := hD
  refine W.widen (k := 0) (n := 0) (by omega) (by omega) ?_
  exact mc_iret hx hb hr hlk hP hD hS () rfl [0] rfl rfl (by omega) (by omega) dM_part_27
set_option maxHeartbeats 400000 in
set_option maxRecDepth 100000 in
theorem x_M_show (l : Launch) (g : Gd) (sz : Nat) (h0 : Nat) (w : Nat → Nat) (v1 v2 : Int32)  : Met l y_M_show w_M_show ({ frames := 1, cells := 0, slots := 0, locals := 40 } : Room) (va_Pc [.ref h0, .int v1, .int v2] (pr (en g) g.1 vcl sz [(h0, .inr (8, [.int 0, .int 0, .int 0, .int 0, .ref (w 0), .ref (w 1), .ref (w 2), .ref (w 3), .ref (w 4), .ref (w 5), .ref (w 6), .ref (w 7), .ref (w 8), .ref (w 9)]))])) (va_Qi (fun (r : Int32) (u : Unit) => r = nI 0) (po g.1 vcl (va_A [(h0, .inr (8, [.int 0, .int 0, .int 0, .int 0, .ref (w 0), .ref (w 1), .ref (w 2), .ref (w 3), .ref (w 4), .ref (w 5), .ref (w 6), .ref (w 7), .ref (w 8), .ref (w 9)]))] sz) (fun (u : Unit) => [(h0, .inr (8, [.int (nI 1), .int 0, .int 0, .int 0, .ref (w 0), .ref (w 1), .ref (w 2), .ref (w 3), .ref (w 4), .ref (w 5), .ref (w 6), .ref (w 7), .ref (w 8), .ref (w 9)]))])) (va_A [(h0, .inr (8, [.int 0, .int 0, .int 0, .int 0, .ref (w 0), .ref (w 1), .ref (w 2), .ref (w 3), .ref (w 4), .ref (w 5), .ref (w 6), .ref (w 7), .ref (w 8), .ref (w 9)]))] sz)) 0 0 (va_A [(h0, .inr (8, [.int 0, .int 0, .int 0, .int 0, .ref (w 0), .ref (w 1), .ref (w 2), .ref (w 3), .ref (w 4), .ref (w 5), .ref (w 6), .ref (w 7), .ref (w 8), .ref (w 9)]))] sz) := by
  refine mc_entry (cc := c_M_show) (maxL := 4) (ret := (some .int)) (by decide) rfl (Nat.le_of_ble_eq_true rfl) ?_
  intro p e s m args below meth c ls F hr hlk hnm hsz hP hD hE hA hl
  obtain ⟨hx, hb, hml, hown, hts⟩ := id F
  have hK := hE.1
  generalize va_A [(h0, .inr (8, [.int 0, .int 0, .int 0, .int 0, .ref (w 0), .ref (w 1), .ref (w 2), .ref (w 3), .ref (w 4), .ref (w 5), .ref (w 6), .ref (w 7), .ref (w 8), .ref (w 9)]))] sz = A at hD hE hA ⊢
  have hS : va_S A s.heap s.heap [] := va_S.rf
  have hl : lv_has ls 4 [(0, .ref h0), (1, .int v1), (2, .int v2)] := hl
  refine lv_aload_n hx hb dM_show_0 rfl (lv_at hl 0 rfl) ?_
  refine lv_iconst (v := nI 0) hx hb dM_show_1 (by decide) ?_
  refine va_put (D := g.1) (ci := 8) (v := .int (nI 0)) (ty := .int) (C := "LatticeKeysModel") (T := T_M) (N := 14) hx hb hts (wg_ft i_M) ty_M k_M n_M hown hK hP hD hS 0 rfl rfl 0 (by decide) (hts _ (wg_t kw_1526)) (fun _ h9 => h9) rfl (by decide +kernel) rfl rfl (Nat.le_of_ble_eq_true rfl) dM_show_2 (fun H locs hP hD hS => ?_)
  have hP : va_P g.1 vcl [(h0, .inr (8, [.int (nI 0), .int 0, .int 0, .int 0, .ref (w 0), .ref (w 1), .ref (w 2), .ref (w 3), .ref (w 4), .ref (w 5), .ref (w 6), .ref (w 7), .ref (w 8), .ref (w 9)]))] _ := hP
  have hD : va_D _ [(h0, .inr (8, [.int (nI 0), .int 0, .int 0, .int 0, .ref (w 0), .ref (w 1), .ref (w 2), .ref (w 3), .ref (w 4), .ref (w 5), .ref (w 6), .ref (w 7), .ref (w 8), .ref (w 9)]))] := hD
  refine lv_aload_n hx hb dM_show_5 rfl (lv_at hl 0 rfl) ?_
  refine lv_iload_n hx hb dM_show_6 rfl (lv_at hl 1 rfl) ?_
  refine mr_i (wc := [(h0, .inr (8, [.int (nI 0), .int 0, .int 0, .int 0, .ref (w 0), .ref (w 1), .ref (w 2), .ref (w 3), .ref (w 4), .ref (w 5), .ref (w 6), .ref (w 7), .ref (w 8), .ref (w 9)]))]) (wr := []) hP hD hS hA [0] [] rfl rfl rfl (by decide) (va_runV (As := [.int v1]) (rest := []) F (m_M_none l g _ h0 w (nI 0) 0 0 v1) (cwV 1 hts (wg_app (wg_c kw_1781 (wg_c kw_1783 (wg_c ks_65 (wg_c kw_9 wg_n)))) kw_1784) rfl rfl rfl (by decide +kernel) ⟨by decide, by decide⟩) (pr_V (en_ok g) (q0 := 0) hK hP hD hS hA hE [0] rfl rfl rfl rfl) rfl rfl hl.1 rfl (lv_room (Nat.le_of_ble_eq_true rfl)) dM_show_7 ⟨(by decide), (by decide)⟩) (fun r1 u1 H hu1 hP hD hS => ?_)
  subst hu1
  have hP : va_P g.1 vcl [(h0, .inr (8, [.int (nI 0), .int 0, .int 0, .int 0, .ref (w 0), .ref (w 1), .ref (w 2), .ref (w 3), .ref (w 4), .ref (w 5), .ref (w 6), .ref (w 7), .ref (w 8), .ref (w 9)]))] _ := hP
  have hD : va_D _ [(h0, .inr (8, [.int (nI 0), .int 0, .int 0, .int 0, .ref (w 0), .ref (w 1), .ref (w 2), .ref (w 3), .ref (w 4), .ref (w 5), .ref (w 6), .ref (w 7), .ref (w 8), .ref (w 9)]))] := hD
  refine W.widen (k := 0) (n := 0) (by omega) (by omega) ?_
  refine lv_if_ne (tgt := 22) hx hb dM_show_10 (by decide) (fun h1 => ?_) (fun h1 => absurd h1 (by decide))
  refine lv_aload_n hx hb dM_show_22 rfl (lv_at hl 0 rfl) ?_
  refine lv_iconst (v := nI 1) hx hb dM_show_23 (by decide) ?_
  refine mc_i (wc := [(h0, .inr (8, [.int (nI 0), .int 0, .int 0, .int 0, .ref (w 0), .ref (w 1), .ref (w 2), .ref (w 3), .ref (w 4), .ref (w 5), .ref (w 6), .ref (w 7), .ref (w 8), .ref (w 9)]))]) (wr := []) hP hD hS hA [0] [] rfl rfl rfl (by decide) (va_runV (As := [.int (nI 1)]) (rest := []) F (m_M_fail l g _ h0 w (nI 0) 0 0 0 (nI 1)) (cwV 1 hts (wg_app (wg_c kw_1577 (wg_c kw_1579 (wg_c ks_50 (wg_c kw_9 wg_n)))) kw_1580) rfl rfl rfl (by decide +kernel) ⟨by decide, by decide⟩) (pr_V (en_ok g) (q0 := 0) hK hP hD hS hA hE [0] rfl rfl rfl rfl) rfl rfl hl.1 rfl (lv_room (Nat.le_of_ble_eq_true rfl)) dM_show_24 ⟨(by decide), (by decide)⟩) (fun r2 u2 H locs hu2 hP hD hS => ?_)
  subst hu2
  have hP : va_P g.1 vcl [(h0, .inr (8, [.int (nI 1), .int 0, .int 0, .int 0, .ref (w 0), .ref (w 1), .ref (w 2), .ref (w 3), .ref (w 4), .ref (w 5), .ref (w 6), .ref (w 7), .ref (w 8), .ref (w 9)]))] _ := hP
  have hD : va_D _ [(h0, .inr (8, [.int (nI 1), .int 0, .int 0, .int 0, .ref (w 0), .ref (w 1), .ref (w 2), .ref (w 3), .ref (w 4), .ref (w 5), .ref (w 6), .ref (w 7), .ref (w 8), .ref (w 9)]))] := hD
  refine W.widen (k := 0) (n := 0) (by omega) (by omega) ?_
  exact mc_iret hx hb hr hlk hP hD hS () rfl [0] rfl rfl (by omega) (by omega) dM_show_27
set_option maxHeartbeats 400000 in
set_option maxRecDepth 100000 in
theorem x_M_told (l : Launch) (g : Gd) (sz : Nat) (h0 : Nat) (w : Nat → Nat) (v1 v2 : Int32)  : Met l y_M_told w_M_told ({ frames := 1, cells := 0, slots := 0, locals := 40 } : Room) (va_Pc [.ref h0, .int v1, .int v2] (pr (en g) g.1 vcl sz [(h0, .inr (8, [.int 0, .int 0, .int 0, .int 0, .ref (w 0), .ref (w 1), .ref (w 2), .ref (w 3), .ref (w 4), .ref (w 5), .ref (w 6), .ref (w 7), .ref (w 8), .ref (w 9)]))])) (va_Qi (fun (r : Int32) (u : Unit) => r = nI 0) (po g.1 vcl (va_A [(h0, .inr (8, [.int 0, .int 0, .int 0, .int 0, .ref (w 0), .ref (w 1), .ref (w 2), .ref (w 3), .ref (w 4), .ref (w 5), .ref (w 6), .ref (w 7), .ref (w 8), .ref (w 9)]))] sz) (fun (u : Unit) => [(h0, .inr (8, [.int (nI 1), .int 0, .int 0, .int 0, .ref (w 0), .ref (w 1), .ref (w 2), .ref (w 3), .ref (w 4), .ref (w 5), .ref (w 6), .ref (w 7), .ref (w 8), .ref (w 9)]))])) (va_A [(h0, .inr (8, [.int 0, .int 0, .int 0, .int 0, .ref (w 0), .ref (w 1), .ref (w 2), .ref (w 3), .ref (w 4), .ref (w 5), .ref (w 6), .ref (w 7), .ref (w 8), .ref (w 9)]))] sz)) 0 0 (va_A [(h0, .inr (8, [.int 0, .int 0, .int 0, .int 0, .ref (w 0), .ref (w 1), .ref (w 2), .ref (w 3), .ref (w 4), .ref (w 5), .ref (w 6), .ref (w 7), .ref (w 8), .ref (w 9)]))] sz) := by
  refine mc_entry (cc := c_M_told) (maxL := 3) (ret := (some .int)) (by decide) rfl (Nat.le_of_ble_eq_true rfl) ?_
  intro p e s m args below meth c ls F hr hlk hnm hsz hP hD hE hA hl
  obtain ⟨hx, hb, hml, hown, hts⟩ := id F
  have hK := hE.1
  generalize va_A [(h0, .inr (8, [.int 0, .int 0, .int 0, .int 0, .ref (w 0), .ref (w 1), .ref (w 2), .ref (w 3), .ref (w 4), .ref (w 5), .ref (w 6), .ref (w 7), .ref (w 8), .ref (w 9)]))] sz = A at hD hE hA ⊢
  have hS : va_S A s.heap s.heap [] := va_S.rf
  have hl : lv_has ls 3 [(0, .ref h0), (1, .int v1), (2, .int v2)] := hl
  refine lv_aload_n hx hb dM_told_0 rfl (lv_at hl 0 rfl) ?_
  refine lv_iconst (v := nI 0) hx hb dM_told_1 (by decide) ?_
  refine va_put (D := g.1) (ci := 8) (v := .int (nI 0)) (ty := .int) (C := "LatticeKeysModel") (T := T_M) (N := 14) hx hb hts (wg_ft i_M) ty_M k_M n_M hown hK hP hD hS 0 rfl rfl 0 (by decide) (hts _ (wg_t kw_1526)) (fun _ h9 => h9) rfl (by decide +kernel) rfl rfl (Nat.le_of_ble_eq_true rfl) dM_told_2 (fun H locs hP hD hS => ?_)
  have hP : va_P g.1 vcl [(h0, .inr (8, [.int (nI 0), .int 0, .int 0, .int 0, .ref (w 0), .ref (w 1), .ref (w 2), .ref (w 3), .ref (w 4), .ref (w 5), .ref (w 6), .ref (w 7), .ref (w 8), .ref (w 9)]))] _ := hP
  have hD : va_D _ [(h0, .inr (8, [.int (nI 0), .int 0, .int 0, .int 0, .ref (w 0), .ref (w 1), .ref (w 2), .ref (w 3), .ref (w 4), .ref (w 5), .ref (w 6), .ref (w 7), .ref (w 8), .ref (w 9)]))] := hD
  refine lv_aload_n hx hb dM_told_5 rfl (lv_at hl 0 rfl) ?_
  refine lv_iload_n hx hb dM_told_6 rfl (lv_at hl 1 rfl) ?_
  refine mr_i (wc := [(h0, .inr (8, [.int (nI 0), .int 0, .int 0, .int 0, .ref (w 0), .ref (w 1), .ref (w 2), .ref (w 3), .ref (w 4), .ref (w 5), .ref (w 6), .ref (w 7), .ref (w 8), .ref (w 9)]))]) (wr := []) hP hD hS hA [0] [] rfl rfl rfl (by decide) (va_runV (As := [.int v1]) (rest := []) F (m_M_none l g _ h0 w (nI 0) 0 0 v1) (cwV 1 hts (wg_app (wg_c kw_1781 (wg_c kw_1783 (wg_c ks_65 (wg_c kw_9 wg_n)))) kw_1784) rfl rfl rfl (by decide +kernel) ⟨by decide, by decide⟩) (pr_V (en_ok g) (q0 := 0) hK hP hD hS hA hE [0] rfl rfl rfl rfl) rfl rfl hl.1 rfl (lv_room (Nat.le_of_ble_eq_true rfl)) dM_told_7 ⟨(by decide), (by decide)⟩) (fun r1 u1 H hu1 hP hD hS => ?_)
  subst hu1
  have hP : va_P g.1 vcl [(h0, .inr (8, [.int (nI 0), .int 0, .int 0, .int 0, .ref (w 0), .ref (w 1), .ref (w 2), .ref (w 3), .ref (w 4), .ref (w 5), .ref (w 6), .ref (w 7), .ref (w 8), .ref (w 9)]))] _ := hP
  have hD : va_D _ [(h0, .inr (8, [.int (nI 0), .int 0, .int 0, .int 0, .ref (w 0), .ref (w 1), .ref (w 2), .ref (w 3), .ref (w 4), .ref (w 5), .ref (w 6), .ref (w 7), .ref (w 8), .ref (w 9)]))] := hD
  refine W.widen (k := 0) (n := 0) (by omega) (by omega) ?_
  refine lv_if_eq (tgt := 19) hx hb dM_told_10 (by decide) (fun h1 => absurd h1 (by decide)) (fun h1 => ?_)
  refine lv_aload_n hx hb dM_told_13 rfl (lv_at hl 0 rfl) ?_
  refine lv_iconst (v := nI 1) hx hb dM_told_14 (by decide) ?_
  refine mc_i (wc := [(h0, .inr (8, [.int (nI 0), .int 0, .int 0, .int 0, .ref (w 0), .ref (w 1), .ref (w 2), .ref (w 3), .ref (w 4), .ref (w 5), .ref (w 6), .ref (w 7), .ref (w 8), .ref (w 9)]))]) (wr := []) hP hD hS hA [0] [] rfl rfl rfl (by decide) (va_runV (As := [.int (nI 1)]) (rest := []) F (m_M_fail l g _ h0 w (nI 0) 0 0 0 (nI 1)) (cwV 1 hts (wg_app (wg_c kw_1577 (wg_c kw_1579 (wg_c ks_50 (wg_c kw_9 wg_n)))) kw_1580) rfl rfl rfl (by decide +kernel) ⟨by decide, by decide⟩) (pr_V (en_ok g) (q0 := 0) hK hP hD hS hA hE [0] rfl rfl rfl rfl) rfl rfl hl.1 rfl (lv_room (Nat.le_of_ble_eq_true rfl)) dM_told_15 ⟨(by decide), (by decide)⟩) (fun r2 u2 H locs hu2 hP hD hS => ?_)
  subst hu2
  have hP : va_P g.1 vcl [(h0, .inr (8, [.int (nI 1), .int 0, .int 0, .int 0, .ref (w 0), .ref (w 1), .ref (w 2), .ref (w 3), .ref (w 4), .ref (w 5), .ref (w 6), .ref (w 7), .ref (w 8), .ref (w 9)]))] _ := hP
  have hD : va_D _ [(h0, .inr (8, [.int (nI 1), .int 0, .int 0, .int 0, .ref (w 0), .ref (w 1), .ref (w 2), .ref (w 3), .ref (w 4), .ref (w 5), .ref (w 6), .ref (w 7), .ref (w 8), .ref (w 9)]))] := hD
  refine W.widen (k := 0) (n := 0) (by omega) (by omega) ?_
  exact mc_iret hx hb hr hlk hP hD hS () rfl [0] rfl rfl (by omega) (by omega) dM_told_18
set_option maxHeartbeats 400000 in
set_option maxRecDepth 100000 in
theorem x_M_seal (l : Launch) (g : Gd) (sz : Nat) (h0 : Nat) (w : Nat → Nat) (v1 : Int32)  : Met l y_M_seal w_M_seal ({ frames := 1, cells := 0, slots := 0, locals := 40 } : Room) (va_Pc [.ref h0, .int v1] (pr (en g) g.1 vcl sz [(h0, .inr (8, [.int 0, .int 0, .int 0, .int 0, .ref (w 0), .ref (w 1), .ref (w 2), .ref (w 3), .ref (w 4), .ref (w 5), .ref (w 6), .ref (w 7), .ref (w 8), .ref (w 9)]))])) (va_Qi (fun (r : Int32) (u : Unit) => r = nI 0) (po g.1 vcl (va_A [(h0, .inr (8, [.int 0, .int 0, .int 0, .int 0, .ref (w 0), .ref (w 1), .ref (w 2), .ref (w 3), .ref (w 4), .ref (w 5), .ref (w 6), .ref (w 7), .ref (w 8), .ref (w 9)]))] sz) (fun (u : Unit) => [(h0, .inr (8, [.int (nI 1), .int 0, .int 0, .int 0, .ref (w 0), .ref (w 1), .ref (w 2), .ref (w 3), .ref (w 4), .ref (w 5), .ref (w 6), .ref (w 7), .ref (w 8), .ref (w 9)]))])) (va_A [(h0, .inr (8, [.int 0, .int 0, .int 0, .int 0, .ref (w 0), .ref (w 1), .ref (w 2), .ref (w 3), .ref (w 4), .ref (w 5), .ref (w 6), .ref (w 7), .ref (w 8), .ref (w 9)]))] sz)) 0 0 (va_A [(h0, .inr (8, [.int 0, .int 0, .int 0, .int 0, .ref (w 0), .ref (w 1), .ref (w 2), .ref (w 3), .ref (w 4), .ref (w 5), .ref (w 6), .ref (w 7), .ref (w 8), .ref (w 9)]))] sz) := by
  refine mc_entry (cc := c_M_seal) (maxL := 2) (ret := (some .int)) (by decide) rfl (Nat.le_of_ble_eq_true rfl) ?_
  intro p e s m args below meth c ls F hr hlk hnm hsz hP hD hE hA hl
  obtain ⟨hx, hb, hml, hown, hts⟩ := id F
  have hK := hE.1
  generalize va_A [(h0, .inr (8, [.int 0, .int 0, .int 0, .int 0, .ref (w 0), .ref (w 1), .ref (w 2), .ref (w 3), .ref (w 4), .ref (w 5), .ref (w 6), .ref (w 7), .ref (w 8), .ref (w 9)]))] sz = A at hD hE hA ⊢
  have hS : va_S A s.heap s.heap [] := va_S.rf
  have hl : lv_has ls 2 [(0, .ref h0), (1, .int v1)] := hl
  refine lv_aload_n hx hb dM_seal_0 rfl (lv_at hl 0 rfl) ?_
  refine lv_iconst (v := nI 0) hx hb dM_seal_1 (by decide) ?_
  refine va_put (D := g.1) (ci := 8) (v := .int (nI 0)) (ty := .int) (C := "LatticeKeysModel") (T := T_M) (N := 14) hx hb hts (wg_ft i_M) ty_M k_M n_M hown hK hP hD hS 0 rfl rfl 0 (by decide) (hts _ (wg_t kw_1526)) (fun _ h9 => h9) rfl (by decide +kernel) rfl rfl (Nat.le_of_ble_eq_true rfl) dM_seal_2 (fun H locs hP hD hS => ?_)
  have hP : va_P g.1 vcl [(h0, .inr (8, [.int (nI 0), .int 0, .int 0, .int 0, .ref (w 0), .ref (w 1), .ref (w 2), .ref (w 3), .ref (w 4), .ref (w 5), .ref (w 6), .ref (w 7), .ref (w 8), .ref (w 9)]))] _ := hP
  have hD : va_D _ [(h0, .inr (8, [.int (nI 0), .int 0, .int 0, .int 0, .ref (w 0), .ref (w 1), .ref (w 2), .ref (w 3), .ref (w 4), .ref (w 5), .ref (w 6), .ref (w 7), .ref (w 8), .ref (w 9)]))] := hD
  refine lv_aload_n hx hb dM_seal_5 rfl (lv_at hl 0 rfl) ?_
  refine lv_iload_n hx hb dM_seal_6 rfl (lv_at hl 1 rfl) ?_
  refine mr_i (wc := [(h0, .inr (8, [.int (nI 0), .int 0, .int 0, .int 0, .ref (w 0), .ref (w 1), .ref (w 2), .ref (w 3), .ref (w 4), .ref (w 5), .ref (w 6), .ref (w 7), .ref (w 8), .ref (w 9)]))]) (wr := []) hP hD hS hA [0] [] rfl rfl rfl (by decide) (va_runV (As := [.int v1]) (rest := []) F (m_M_none l g _ h0 w (nI 0) 0 0 v1) (cwV 1 hts (wg_app (wg_c kw_1781 (wg_c kw_1783 (wg_c ks_65 (wg_c kw_9 wg_n)))) kw_1784) rfl rfl rfl (by decide +kernel) ⟨by decide, by decide⟩) (pr_V (en_ok g) (q0 := 0) hK hP hD hS hA hE [0] rfl rfl rfl rfl) rfl rfl hl.1 rfl (lv_room (Nat.le_of_ble_eq_true rfl)) dM_seal_7 ⟨(by decide), (by decide)⟩) (fun r1 u1 H hu1 hP hD hS => ?_)
  subst hu1
  have hP : va_P g.1 vcl [(h0, .inr (8, [.int (nI 0), .int 0, .int 0, .int 0, .ref (w 0), .ref (w 1), .ref (w 2), .ref (w 3), .ref (w 4), .ref (w 5), .ref (w 6), .ref (w 7), .ref (w 8), .ref (w 9)]))] _ := hP
  have hD : va_D _ [(h0, .inr (8, [.int (nI 0), .int 0, .int 0, .int 0, .ref (w 0), .ref (w 1), .ref (w 2), .ref (w 3), .ref (w 4), .ref (w 5), .ref (w 6), .ref (w 7), .ref (w 8), .ref (w 9)]))] := hD
  refine W.widen (k := 0) (n := 0) (by omega) (by omega) ?_
  refine lv_if_ne (tgt := 23) hx hb dM_seal_10 (by decide) (fun h1 => ?_) (fun h1 => absurd h1 (by decide))
  refine lv_aload_n hx hb dM_seal_23 rfl (lv_at hl 0 rfl) ?_
  refine lv_iconst (v := nI 1) hx hb dM_seal_24 (by decide) ?_
  refine mc_i (wc := [(h0, .inr (8, [.int (nI 0), .int 0, .int 0, .int 0, .ref (w 0), .ref (w 1), .ref (w 2), .ref (w 3), .ref (w 4), .ref (w 5), .ref (w 6), .ref (w 7), .ref (w 8), .ref (w 9)]))]) (wr := []) hP hD hS hA [0] [] rfl rfl rfl (by decide) (va_runV (As := [.int (nI 1)]) (rest := []) F (m_M_fail l g _ h0 w (nI 0) 0 0 0 (nI 1)) (cwV 1 hts (wg_app (wg_c kw_1577 (wg_c kw_1579 (wg_c ks_50 (wg_c kw_9 wg_n)))) kw_1580) rfl rfl rfl (by decide +kernel) ⟨by decide, by decide⟩) (pr_V (en_ok g) (q0 := 0) hK hP hD hS hA hE [0] rfl rfl rfl rfl) rfl rfl hl.1 rfl (lv_room (Nat.le_of_ble_eq_true rfl)) dM_seal_25 ⟨(by decide), (by decide)⟩) (fun r2 u2 H locs hu2 hP hD hS => ?_)
  subst hu2
  have hP : va_P g.1 vcl [(h0, .inr (8, [.int (nI 1), .int 0, .int 0, .int 0, .ref (w 0), .ref (w 1), .ref (w 2), .ref (w 3), .ref (w 4), .ref (w 5), .ref (w 6), .ref (w 7), .ref (w 8), .ref (w 9)]))] _ := hP
  have hD : va_D _ [(h0, .inr (8, [.int (nI 1), .int 0, .int 0, .int 0, .ref (w 0), .ref (w 1), .ref (w 2), .ref (w 3), .ref (w 4), .ref (w 5), .ref (w 6), .ref (w 7), .ref (w 8), .ref (w 9)]))] := hD
  refine W.widen (k := 0) (n := 0) (by omega) (by omega) ?_
  exact mc_iret hx hb hr hlk hP hD hS () rfl [0] rfl rfl (by omega) (by omega) dM_seal_28
set_option maxHeartbeats 400000 in
set_option maxRecDepth 100000 in
theorem x_M_open (l : Launch) (g : Gd) (sz : Nat) (h0 : Nat) (w : Nat → Nat) (v1 : Int32)  : Met l y_M_open w_M_open ({ frames := 1, cells := 0, slots := 0, locals := 40 } : Room) (va_Pc [.ref h0, .int v1] (pr (en g) g.1 vcl sz [(h0, .inr (8, [.int 0, .int 0, .int 0, .int 0, .ref (w 0), .ref (w 1), .ref (w 2), .ref (w 3), .ref (w 4), .ref (w 5), .ref (w 6), .ref (w 7), .ref (w 8), .ref (w 9)]))])) (va_Qi (fun (r : Int32) (u : Unit) => r = nI 0) (po g.1 vcl (va_A [(h0, .inr (8, [.int 0, .int 0, .int 0, .int 0, .ref (w 0), .ref (w 1), .ref (w 2), .ref (w 3), .ref (w 4), .ref (w 5), .ref (w 6), .ref (w 7), .ref (w 8), .ref (w 9)]))] sz) (fun (u : Unit) => [(h0, .inr (8, [.int (nI 1), .int 0, .int 0, .int 0, .ref (w 0), .ref (w 1), .ref (w 2), .ref (w 3), .ref (w 4), .ref (w 5), .ref (w 6), .ref (w 7), .ref (w 8), .ref (w 9)]))])) (va_A [(h0, .inr (8, [.int 0, .int 0, .int 0, .int 0, .ref (w 0), .ref (w 1), .ref (w 2), .ref (w 3), .ref (w 4), .ref (w 5), .ref (w 6), .ref (w 7), .ref (w 8), .ref (w 9)]))] sz)) 0 0 (va_A [(h0, .inr (8, [.int 0, .int 0, .int 0, .int 0, .ref (w 0), .ref (w 1), .ref (w 2), .ref (w 3), .ref (w 4), .ref (w 5), .ref (w 6), .ref (w 7), .ref (w 8), .ref (w 9)]))] sz) := by
  refine mc_entry (cc := c_M_open) (maxL := 2) (ret := (some .int)) (by decide) rfl (Nat.le_of_ble_eq_true rfl) ?_
  intro p e s m args below meth c ls F hr hlk hnm hsz hP hD hE hA hl
  obtain ⟨hx, hb, hml, hown, hts⟩ := id F
  have hK := hE.1
  generalize va_A [(h0, .inr (8, [.int 0, .int 0, .int 0, .int 0, .ref (w 0), .ref (w 1), .ref (w 2), .ref (w 3), .ref (w 4), .ref (w 5), .ref (w 6), .ref (w 7), .ref (w 8), .ref (w 9)]))] sz = A at hD hE hA ⊢
  have hS : va_S A s.heap s.heap [] := va_S.rf
  have hl : lv_has ls 2 [(0, .ref h0), (1, .int v1)] := hl
  refine lv_aload_n hx hb dM_open_0 rfl (lv_at hl 0 rfl) ?_
  refine lv_iconst (v := nI 0) hx hb dM_open_1 (by decide) ?_
  refine va_put (D := g.1) (ci := 8) (v := .int (nI 0)) (ty := .int) (C := "LatticeKeysModel") (T := T_M) (N := 14) hx hb hts (wg_ft i_M) ty_M k_M n_M hown hK hP hD hS 0 rfl rfl 0 (by decide) (hts _ (wg_t kw_1526)) (fun _ h9 => h9) rfl (by decide +kernel) rfl rfl (Nat.le_of_ble_eq_true rfl) dM_open_2 (fun H locs hP hD hS => ?_)
  have hP : va_P g.1 vcl [(h0, .inr (8, [.int (nI 0), .int 0, .int 0, .int 0, .ref (w 0), .ref (w 1), .ref (w 2), .ref (w 3), .ref (w 4), .ref (w 5), .ref (w 6), .ref (w 7), .ref (w 8), .ref (w 9)]))] _ := hP
  have hD : va_D _ [(h0, .inr (8, [.int (nI 0), .int 0, .int 0, .int 0, .ref (w 0), .ref (w 1), .ref (w 2), .ref (w 3), .ref (w 4), .ref (w 5), .ref (w 6), .ref (w 7), .ref (w 8), .ref (w 9)]))] := hD
  refine lv_aload_n hx hb dM_open_5 rfl (lv_at hl 0 rfl) ?_
  refine lv_iload_n hx hb dM_open_6 rfl (lv_at hl 1 rfl) ?_
  refine mr_i (wc := [(h0, .inr (8, [.int (nI 0), .int 0, .int 0, .int 0, .ref (w 0), .ref (w 1), .ref (w 2), .ref (w 3), .ref (w 4), .ref (w 5), .ref (w 6), .ref (w 7), .ref (w 8), .ref (w 9)]))]) (wr := []) hP hD hS hA [0] [] rfl rfl rfl (by decide) (va_runV (As := [.int v1]) (rest := []) F (m_M_none l g _ h0 w (nI 0) 0 0 v1) (cwV 1 hts (wg_app (wg_c kw_1781 (wg_c kw_1783 (wg_c ks_65 (wg_c kw_9 wg_n)))) kw_1784) rfl rfl rfl (by decide +kernel) ⟨by decide, by decide⟩) (pr_V (en_ok g) (q0 := 0) hK hP hD hS hA hE [0] rfl rfl rfl rfl) rfl rfl hl.1 rfl (lv_room (Nat.le_of_ble_eq_true rfl)) dM_open_7 ⟨(by decide), (by decide)⟩) (fun r1 u1 H hu1 hP hD hS => ?_)
  subst hu1
  have hP : va_P g.1 vcl [(h0, .inr (8, [.int (nI 0), .int 0, .int 0, .int 0, .ref (w 0), .ref (w 1), .ref (w 2), .ref (w 3), .ref (w 4), .ref (w 5), .ref (w 6), .ref (w 7), .ref (w 8), .ref (w 9)]))] _ := hP
  have hD : va_D _ [(h0, .inr (8, [.int (nI 0), .int 0, .int 0, .int 0, .ref (w 0), .ref (w 1), .ref (w 2), .ref (w 3), .ref (w 4), .ref (w 5), .ref (w 6), .ref (w 7), .ref (w 8), .ref (w 9)]))] := hD
  refine W.widen (k := 0) (n := 0) (by omega) (by omega) ?_
  refine lv_if_ne (tgt := 32) hx hb dM_open_10 (by decide) (fun h1 => ?_) (fun h1 => absurd h1 (by decide))
  refine lv_aload_n hx hb dM_open_32 rfl (lv_at hl 0 rfl) ?_
  refine lv_iconst (v := nI 1) hx hb dM_open_33 (by decide) ?_
  refine mc_i (wc := [(h0, .inr (8, [.int (nI 0), .int 0, .int 0, .int 0, .ref (w 0), .ref (w 1), .ref (w 2), .ref (w 3), .ref (w 4), .ref (w 5), .ref (w 6), .ref (w 7), .ref (w 8), .ref (w 9)]))]) (wr := []) hP hD hS hA [0] [] rfl rfl rfl (by decide) (va_runV (As := [.int (nI 1)]) (rest := []) F (m_M_fail l g _ h0 w (nI 0) 0 0 0 (nI 1)) (cwV 1 hts (wg_app (wg_c kw_1577 (wg_c kw_1579 (wg_c ks_50 (wg_c kw_9 wg_n)))) kw_1580) rfl rfl rfl (by decide +kernel) ⟨by decide, by decide⟩) (pr_V (en_ok g) (q0 := 0) hK hP hD hS hA hE [0] rfl rfl rfl rfl) rfl rfl hl.1 rfl (lv_room (Nat.le_of_ble_eq_true rfl)) dM_open_34 ⟨(by decide), (by decide)⟩) (fun r2 u2 H locs hu2 hP hD hS => ?_)
  subst hu2
  have hP : va_P g.1 vcl [(h0, .inr (8, [.int (nI 1), .int 0, .int 0, .int 0, .ref (w 0), .ref (w 1), .ref (w 2), .ref (w 3), .ref (w 4), .ref (w 5), .ref (w 6), .ref (w 7), .ref (w 8), .ref (w 9)]))] _ := hP
  have hD : va_D _ [(h0, .inr (8, [.int (nI 1), .int 0, .int 0, .int 0, .ref (w 0), .ref (w 1), .ref (w 2), .ref (w 3), .ref (w 4), .ref (w 5), .ref (w 6), .ref (w 7), .ref (w 8), .ref (w 9)]))] := hD
  refine W.widen (k := 0) (n := 0) (by omega) (by omega) ?_
  exact mc_iret hx hb hr hlk hP hD hS () rfl [0] rfl rfl (by omega) (by omega) dM_open_37
set_option maxHeartbeats 400000 in
set_option maxRecDepth 100000 in
theorem x_M_sign (l : Launch) (g : Gd) (sz : Nat) (h0 : Nat) (w : Nat → Nat) (v1 v2 : Int32)  : Met l y_M_sign w_M_sign ({ frames := 1, cells := 0, slots := 0, locals := 40 } : Room) (va_Pc [.ref h0, .int v1, .int v2] (pr (en g) g.1 vcl sz [(h0, .inr (8, [.int 0, .int 0, .int 0, .int 0, .ref (w 0), .ref (w 1), .ref (w 2), .ref (w 3), .ref (w 4), .ref (w 5), .ref (w 6), .ref (w 7), .ref (w 8), .ref (w 9)]))])) (va_Qi (fun (r : Int32) (u : Unit) => r = nI 0) (po g.1 vcl (va_A [(h0, .inr (8, [.int 0, .int 0, .int 0, .int 0, .ref (w 0), .ref (w 1), .ref (w 2), .ref (w 3), .ref (w 4), .ref (w 5), .ref (w 6), .ref (w 7), .ref (w 8), .ref (w 9)]))] sz) (fun (u : Unit) => [(h0, .inr (8, [.int (nI 1), .int 0, .int 0, .int 0, .ref (w 0), .ref (w 1), .ref (w 2), .ref (w 3), .ref (w 4), .ref (w 5), .ref (w 6), .ref (w 7), .ref (w 8), .ref (w 9)]))])) (va_A [(h0, .inr (8, [.int 0, .int 0, .int 0, .int 0, .ref (w 0), .ref (w 1), .ref (w 2), .ref (w 3), .ref (w 4), .ref (w 5), .ref (w 6), .ref (w 7), .ref (w 8), .ref (w 9)]))] sz)) 0 0 (va_A [(h0, .inr (8, [.int 0, .int 0, .int 0, .int 0, .ref (w 0), .ref (w 1), .ref (w 2), .ref (w 3), .ref (w 4), .ref (w 5), .ref (w 6), .ref (w 7), .ref (w 8), .ref (w 9)]))] sz) := by
  refine mc_entry (cc := c_M_sign) (maxL := 5) (ret := (some .int)) (by decide) rfl (Nat.le_of_ble_eq_true rfl) ?_
  intro p e s m args below meth c ls F hr hlk hnm hsz hP hD hE hA hl
  obtain ⟨hx, hb, hml, hown, hts⟩ := id F
  have hK := hE.1
  generalize va_A [(h0, .inr (8, [.int 0, .int 0, .int 0, .int 0, .ref (w 0), .ref (w 1), .ref (w 2), .ref (w 3), .ref (w 4), .ref (w 5), .ref (w 6), .ref (w 7), .ref (w 8), .ref (w 9)]))] sz = A at hD hE hA ⊢
  have hS : va_S A s.heap s.heap [] := va_S.rf
  have hl : lv_has ls 5 [(0, .ref h0), (1, .int v1), (2, .int v2)] := hl
  refine lv_aload_n hx hb dM_sign_0 rfl (lv_at hl 0 rfl) ?_
  refine lv_iconst (v := nI 0) hx hb dM_sign_1 (by decide) ?_
  refine va_put (D := g.1) (ci := 8) (v := .int (nI 0)) (ty := .int) (C := "LatticeKeysModel") (T := T_M) (N := 14) hx hb hts (wg_ft i_M) ty_M k_M n_M hown hK hP hD hS 0 rfl rfl 0 (by decide) (hts _ (wg_t kw_1526)) (fun _ h9 => h9) rfl (by decide +kernel) rfl rfl (Nat.le_of_ble_eq_true rfl) dM_sign_2 (fun H locs hP hD hS => ?_)
  have hP : va_P g.1 vcl [(h0, .inr (8, [.int (nI 0), .int 0, .int 0, .int 0, .ref (w 0), .ref (w 1), .ref (w 2), .ref (w 3), .ref (w 4), .ref (w 5), .ref (w 6), .ref (w 7), .ref (w 8), .ref (w 9)]))] _ := hP
  have hD : va_D _ [(h0, .inr (8, [.int (nI 0), .int 0, .int 0, .int 0, .ref (w 0), .ref (w 1), .ref (w 2), .ref (w 3), .ref (w 4), .ref (w 5), .ref (w 6), .ref (w 7), .ref (w 8), .ref (w 9)]))] := hD
  refine lv_aload_n hx hb dM_sign_5 rfl (lv_at hl 0 rfl) ?_
  refine lv_iload_n hx hb dM_sign_6 rfl (lv_at hl 1 rfl) ?_
  refine mr_i (wc := [(h0, .inr (8, [.int (nI 0), .int 0, .int 0, .int 0, .ref (w 0), .ref (w 1), .ref (w 2), .ref (w 3), .ref (w 4), .ref (w 5), .ref (w 6), .ref (w 7), .ref (w 8), .ref (w 9)]))]) (wr := []) hP hD hS hA [0] [] rfl rfl rfl (by decide) (va_runV (As := [.int v1]) (rest := []) F (m_M_none l g _ h0 w (nI 0) 0 0 v1) (cwV 1 hts (wg_app (wg_c kw_1781 (wg_c kw_1783 (wg_c ks_65 (wg_c kw_9 wg_n)))) kw_1784) rfl rfl rfl (by decide +kernel) ⟨by decide, by decide⟩) (pr_V (en_ok g) (q0 := 0) hK hP hD hS hA hE [0] rfl rfl rfl rfl) rfl rfl hl.1 rfl (lv_room (Nat.le_of_ble_eq_true rfl)) dM_sign_7 ⟨(by decide), (by decide)⟩) (fun r1 u1 H hu1 hP hD hS => ?_)
  subst hu1
  have hP : va_P g.1 vcl [(h0, .inr (8, [.int (nI 0), .int 0, .int 0, .int 0, .ref (w 0), .ref (w 1), .ref (w 2), .ref (w 3), .ref (w 4), .ref (w 5), .ref (w 6), .ref (w 7), .ref (w 8), .ref (w 9)]))] _ := hP
  have hD : va_D _ [(h0, .inr (8, [.int (nI 0), .int 0, .int 0, .int 0, .ref (w 0), .ref (w 1), .ref (w 2), .ref (w 3), .ref (w 4), .ref (w 5), .ref (w 6), .ref (w 7), .ref (w 8), .ref (w 9)]))] := hD
  refine W.widen (k := 0) (n := 0) (by omega) (by omega) ?_
  refine lv_if_ne (tgt := 32) hx hb dM_sign_10 (by decide) (fun h1 => ?_) (fun h1 => absurd h1 (by decide))
  refine lv_aload_n hx hb dM_sign_32 rfl (lv_at hl 0 rfl) ?_
  refine lv_iconst (v := nI 1) hx hb dM_sign_33 (by decide) ?_
  refine mc_i (wc := [(h0, .inr (8, [.int (nI 0), .int 0, .int 0, .int 0, .ref (w 0), .ref (w 1), .ref (w 2), .ref (w 3), .ref (w 4), .ref (w 5), .ref (w 6), .ref (w 7), .ref (w 8), .ref (w 9)]))]) (wr := []) hP hD hS hA [0] [] rfl rfl rfl (by decide) (va_runV (As := [.int (nI 1)]) (rest := []) F (m_M_fail l g _ h0 w (nI 0) 0 0 0 (nI 1)) (cwV 1 hts (wg_app (wg_c kw_1577 (wg_c kw_1579 (wg_c ks_50 (wg_c kw_9 wg_n)))) kw_1580) rfl rfl rfl (by decide +kernel) ⟨by decide, by decide⟩) (pr_V (en_ok g) (q0 := 0) hK hP hD hS hA hE [0] rfl rfl rfl rfl) rfl rfl hl.1 rfl (lv_room (Nat.le_of_ble_eq_true rfl)) dM_sign_34 ⟨(by decide), (by decide)⟩) (fun r2 u2 H locs hu2 hP hD hS => ?_)
  subst hu2
  have hP : va_P g.1 vcl [(h0, .inr (8, [.int (nI 1), .int 0, .int 0, .int 0, .ref (w 0), .ref (w 1), .ref (w 2), .ref (w 3), .ref (w 4), .ref (w 5), .ref (w 6), .ref (w 7), .ref (w 8), .ref (w 9)]))] _ := hP
  have hD : va_D _ [(h0, .inr (8, [.int (nI 1), .int 0, .int 0, .int 0, .ref (w 0), .ref (w 1), .ref (w 2), .ref (w 3), .ref (w 4), .ref (w 5), .ref (w 6), .ref (w 7), .ref (w 8), .ref (w 9)]))] := hD
  refine W.widen (k := 0) (n := 0) (by omega) (by omega) ?_
  exact mc_iret hx hb hr hlk hP hD hS () rfl [0] rfl rfl (by omega) (by omega) dM_sign_37
set_option maxHeartbeats 400000 in
set_option maxRecDepth 100000 in
theorem x_M_verify (l : Launch) (g : Gd) (sz : Nat) (h0 : Nat) (w : Nat → Nat) (v1 v2 : Int32)  : Met l y_M_verify w_M_verify ({ frames := 1, cells := 0, slots := 0, locals := 40 } : Room) (va_Pc [.ref h0, .int v1, .int v2] (pr (en g) g.1 vcl sz [(h0, .inr (8, [.int 0, .int 0, .int 0, .int 0, .ref (w 0), .ref (w 1), .ref (w 2), .ref (w 3), .ref (w 4), .ref (w 5), .ref (w 6), .ref (w 7), .ref (w 8), .ref (w 9)]))])) (va_Qi (fun (r : Int32) (u : Unit) => r = nI 0) (po g.1 vcl (va_A [(h0, .inr (8, [.int 0, .int 0, .int 0, .int 0, .ref (w 0), .ref (w 1), .ref (w 2), .ref (w 3), .ref (w 4), .ref (w 5), .ref (w 6), .ref (w 7), .ref (w 8), .ref (w 9)]))] sz) (fun (u : Unit) => [(h0, .inr (8, [.int (nI 1), .int 0, .int 0, .int 0, .ref (w 0), .ref (w 1), .ref (w 2), .ref (w 3), .ref (w 4), .ref (w 5), .ref (w 6), .ref (w 7), .ref (w 8), .ref (w 9)]))])) (va_A [(h0, .inr (8, [.int 0, .int 0, .int 0, .int 0, .ref (w 0), .ref (w 1), .ref (w 2), .ref (w 3), .ref (w 4), .ref (w 5), .ref (w 6), .ref (w 7), .ref (w 8), .ref (w 9)]))] sz)) 0 0 (va_A [(h0, .inr (8, [.int 0, .int 0, .int 0, .int 0, .ref (w 0), .ref (w 1), .ref (w 2), .ref (w 3), .ref (w 4), .ref (w 5), .ref (w 6), .ref (w 7), .ref (w 8), .ref (w 9)]))] sz) := by
  refine mc_entry (cc := c_M_verify) (maxL := 4) (ret := (some .boolean)) (by decide) rfl (Nat.le_of_ble_eq_true rfl) ?_
  intro p e s m args below meth c ls F hr hlk hnm hsz hP hD hE hA hl
  obtain ⟨hx, hb, hml, hown, hts⟩ := id F
  have hK := hE.1
  generalize va_A [(h0, .inr (8, [.int 0, .int 0, .int 0, .int 0, .ref (w 0), .ref (w 1), .ref (w 2), .ref (w 3), .ref (w 4), .ref (w 5), .ref (w 6), .ref (w 7), .ref (w 8), .ref (w 9)]))] sz = A at hD hE hA ⊢
  have hS : va_S A s.heap s.heap [] := va_S.rf
  have hl : lv_has ls 4 [(0, .ref h0), (1, .int v1), (2, .int v2)] := hl
  refine lv_aload_n hx hb dM_verify_0 rfl (lv_at hl 0 rfl) ?_
  refine lv_aload_n hx hb dM_verify_1 rfl (lv_at hl 0 rfl) ?_
  refine lv_iload_n hx hb dM_verify_2 rfl (lv_at hl 1 rfl) ?_
  refine mr_i (wc := [(h0, .inr (8, [.int 0, .int 0, .int 0, .int 0, .ref (w 0), .ref (w 1), .ref (w 2), .ref (w 3), .ref (w 4), .ref (w 5), .ref (w 6), .ref (w 7), .ref (w 8), .ref (w 9)]))]) (wr := []) hP hD hS hA [0] [] rfl rfl rfl (by decide) (va_runV (As := [.int v1]) (rest := [.ref h0]) F (m_M_none l g _ h0 w 0 0 0 v1) (cwV 1 hts (wg_app (wg_c kw_1781 (wg_c kw_1783 (wg_c ks_65 (wg_c kw_9 wg_n)))) kw_1784) rfl rfl rfl (by decide +kernel) ⟨by decide, by decide⟩) (pr_V (en_ok g) (q0 := 0) hK hP hD hS hA hE [0] rfl rfl rfl rfl) rfl rfl hl.1 rfl (lv_room (Nat.le_of_ble_eq_true rfl)) dM_verify_3 ⟨(by decide), (by decide)⟩) (fun r1 u1 H hu1 hP hD hS => ?_)
  subst hu1
  have hP : va_P g.1 vcl [(h0, .inr (8, [.int 0, .int 0, .int 0, .int 0, .ref (w 0), .ref (w 1), .ref (w 2), .ref (w 3), .ref (w 4), .ref (w 5), .ref (w 6), .ref (w 7), .ref (w 8), .ref (w 9)]))] _ := hP
  have hD : va_D _ [(h0, .inr (8, [.int 0, .int 0, .int 0, .int 0, .ref (w 0), .ref (w 1), .ref (w 2), .ref (w 3), .ref (w 4), .ref (w 5), .ref (w 6), .ref (w 7), .ref (w 8), .ref (w 9)]))] := hD
  refine W.widen (k := 0) (n := 0) (by omega) (by omega) ?_
  refine lv_if_ne (tgt := 19) hx hb dM_verify_6 (by decide) (fun h1 => ?_) (fun h1 => absurd h1 (by decide))
  refine lv_iconst (v := nI 1) hx hb dM_verify_19 (by decide) ?_
  refine lv_goto (tgt := 59) hx hb dM_verify_20 (by decide) ?_
  refine va_put (D := g.1) (ci := 8) (v := .int (nI 1)) (ty := .int) (C := "LatticeKeysModel") (T := T_M) (N := 14) hx hb hts (wg_ft i_M) ty_M k_M n_M hown hK hP hD hS 0 rfl rfl 0 (by decide) (hts _ (wg_t kw_1526)) (fun _ h9 => h9) rfl (by decide +kernel) rfl rfl (Nat.le_of_ble_eq_true rfl) dM_verify_59 (fun H locs hP hD hS => ?_)
  have hP : va_P g.1 vcl [(h0, .inr (8, [.int (nI 1), .int 0, .int 0, .int 0, .ref (w 0), .ref (w 1), .ref (w 2), .ref (w 3), .ref (w 4), .ref (w 5), .ref (w 6), .ref (w 7), .ref (w 8), .ref (w 9)]))] _ := hP
  have hD : va_D _ [(h0, .inr (8, [.int (nI 1), .int 0, .int 0, .int 0, .ref (w 0), .ref (w 1), .ref (w 2), .ref (w 3), .ref (w 4), .ref (w 5), .ref (w 6), .ref (w 7), .ref (w 8), .ref (w 9)]))] := hD
  refine lv_aload_n hx hb dM_verify_62 rfl (lv_at hl 0 rfl) ?_
  refine va_get (D := g.1) (ci := 8) (C := "LatticeKeysModel") (T := T_M) (N := 14) hx hb hts (wg_ft i_M) hown hK hP 0 rfl rfl 0 (by decide) (hts _ (wg_t kw_1526)) (fun _ h9 => h9) rfl dM_verify_63 ?_
  refine lv_if_le (tgt := 71) hx hb dM_verify_66 (by decide) (fun h2 => absurd h2 (by decide)) (fun h2 => ?_)
  refine lv_iconst (v := nI 0) hx hb dM_verify_69 (by decide) ?_
  exact mc_zret hx hb hr hlk rfl hP hD hS () rfl [0] rfl rfl (by omega) (by omega) dM_verify_70
set_option maxHeartbeats 400000 in
set_option maxRecDepth 100000 in
theorem x_M_result (l : Launch) (g : Gd) (sz : Nat) (h0 : Nat) (w : Nat → Nat) (v : Int32)  : Met l y_M_result w_M_result ({ frames := 1, cells := 0, slots := 0, locals := 40 } : Room) (va_Pc [.ref h0, .int v] (pr (en g) g.1 vcl sz [(h0, .inr (8, [.int 0, .int 0, .int 0, .int 0, .ref (w 0), .ref (w 1), .ref (w 2), .ref (w 3), .ref (w 4), .ref (w 5), .ref (w 6), .ref (w 7), .ref (w 8), .ref (w 9)]))])) (va_Qi (fun (r : Int32) (u : Unit) => r = nI 0) (po g.1 vcl (va_A [(h0, .inr (8, [.int 0, .int 0, .int 0, .int 0, .ref (w 0), .ref (w 1), .ref (w 2), .ref (w 3), .ref (w 4), .ref (w 5), .ref (w 6), .ref (w 7), .ref (w 8), .ref (w 9)]))] sz) (fun (u : Unit) => [(h0, .inr (8, [.int (nI 1), .int 0, .int 0, .int 0, .ref (w 0), .ref (w 1), .ref (w 2), .ref (w 3), .ref (w 4), .ref (w 5), .ref (w 6), .ref (w 7), .ref (w 8), .ref (w 9)]))])) (va_A [(h0, .inr (8, [.int 0, .int 0, .int 0, .int 0, .ref (w 0), .ref (w 1), .ref (w 2), .ref (w 3), .ref (w 4), .ref (w 5), .ref (w 6), .ref (w 7), .ref (w 8), .ref (w 9)]))] sz)) 0 0 (va_A [(h0, .inr (8, [.int 0, .int 0, .int 0, .int 0, .ref (w 0), .ref (w 1), .ref (w 2), .ref (w 3), .ref (w 4), .ref (w 5), .ref (w 6), .ref (w 7), .ref (w 8), .ref (w 9)]))] sz) := by
  refine mc_entry (cc := c_M_result) (maxL := 2) (ret := (some .int)) (by decide) rfl (Nat.le_of_ble_eq_true rfl) ?_
  intro p e s m args below meth c ls F hr hlk hnm hsz hP hD hE hA hl
  obtain ⟨hx, hb, hml, hown, hts⟩ := id F
  have hK := hE.1
  generalize va_A [(h0, .inr (8, [.int 0, .int 0, .int 0, .int 0, .ref (w 0), .ref (w 1), .ref (w 2), .ref (w 3), .ref (w 4), .ref (w 5), .ref (w 6), .ref (w 7), .ref (w 8), .ref (w 9)]))] sz = A at hD hE hA ⊢
  have hS : va_S A s.heap s.heap [] := va_S.rf
  have hl : lv_has ls 2 [(0, .ref h0), (1, .int v)] := hl
  refine lv_aload_n hx hb dM_result_0 rfl (lv_at hl 0 rfl) ?_
  refine lv_iconst (v := nI 0) hx hb dM_result_1 (by decide) ?_
  refine va_put (D := g.1) (ci := 8) (v := .int (nI 0)) (ty := .int) (C := "LatticeKeysModel") (T := T_M) (N := 14) hx hb hts (wg_ft i_M) ty_M k_M n_M hown hK hP hD hS 0 rfl rfl 0 (by decide) (hts _ (wg_t kw_1526)) (fun _ h9 => h9) rfl (by decide +kernel) rfl rfl (Nat.le_of_ble_eq_true rfl) dM_result_2 (fun H locs hP hD hS => ?_)
  have hP : va_P g.1 vcl [(h0, .inr (8, [.int (nI 0), .int 0, .int 0, .int 0, .ref (w 0), .ref (w 1), .ref (w 2), .ref (w 3), .ref (w 4), .ref (w 5), .ref (w 6), .ref (w 7), .ref (w 8), .ref (w 9)]))] _ := hP
  have hD : va_D _ [(h0, .inr (8, [.int (nI 0), .int 0, .int 0, .int 0, .ref (w 0), .ref (w 1), .ref (w 2), .ref (w 3), .ref (w 4), .ref (w 5), .ref (w 6), .ref (w 7), .ref (w 8), .ref (w 9)]))] := hD
  refine lv_iload_n hx hb dM_result_5 rfl (lv_at hl 1 rfl) ?_
  refine lv_if_lt (tgt := 17) hx hb dM_result_6 (by decide) (fun h1 => ?_) (fun h1 => ?_)
  · refine lv_aload_n hx hb dM_result_17 rfl (lv_at hl 0 rfl) ?_
    refine lv_iconst (v := nI 1) hx hb dM_result_18 (by decide) ?_
    refine mc_i (wc := [(h0, .inr (8, [.int (nI 0), .int 0, .int 0, .int 0, .ref (w 0), .ref (w 1), .ref (w 2), .ref (w 3), .ref (w 4), .ref (w 5), .ref (w 6), .ref (w 7), .ref (w 8), .ref (w 9)]))]) (wr := []) hP hD hS hA [0] [] rfl rfl rfl (by decide) (va_runV (As := [.int (nI 1)]) (rest := []) F (m_M_fail l g _ h0 w (nI 0) 0 0 0 (nI 1)) (cwV 1 hts (wg_app (wg_c kw_1577 (wg_c kw_1579 (wg_c ks_50 (wg_c kw_9 wg_n)))) kw_1580) rfl rfl rfl (by decide +kernel) ⟨by decide, by decide⟩) (pr_V (en_ok g) (q0 := 0) hK hP hD hS hA hE [0] rfl rfl rfl rfl) rfl rfl hl.1 rfl (lv_room (Nat.le_of_ble_eq_true rfl)) dM_result_19 ⟨(by decide), (by decide)⟩) (fun r1 u1 H locs hu1 hP hD hS => ?_)
    subst hu1
    have hP : va_P g.1 vcl [(h0, .inr (8, [.int (nI 1), .int 0, .int 0, .int 0, .ref (w 0), .ref (w 1), .ref (w 2), .ref (w 3), .ref (w 4), .ref (w 5), .ref (w 6), .ref (w 7), .ref (w 8), .ref (w 9)]))] _ := hP
    have hD : va_D _ [(h0, .inr (8, [.int (nI 1), .int 0, .int 0, .int 0, .ref (w 0), .ref (w 1), .ref (w 2), .ref (w 3), .ref (w 4), .ref (w 5), .ref (w 6), .ref (w 7), .ref (w 8), .ref (w 9)]))] := hD
    refine W.widen (k := 0) (n := 0) (by omega) (by omega) ?_
    refine lv_goto (tgt := 35) hx hb dM_result_22 (by decide) ?_
    exact mc_iret hx hb hr hlk hP hD hS () rfl [0] rfl rfl (by omega) (by omega) dM_result_35
  · refine lv_iload_n hx hb dM_result_9 rfl (lv_at hl 1 rfl) ?_
    refine lv_aload_n hx hb dM_result_10 rfl (lv_at hl 0 rfl) ?_
    refine va_get (D := g.1) (ci := 8) (C := "LatticeKeysModel") (T := T_M) (N := 14) hx hb hts (wg_ft i_M) hown hK hP 0 rfl rfl 2 (by decide) (hts _ (wg_t kw_1528)) (fun _ h9 => h9) rfl dM_result_11 ?_
    refine mi_as (show (0 : Int32) = nI 0 from rfl) ?_
    refine lv_icmp_lt (tgt := 25) hx hb dM_result_14 (by decide) (fun h2 => absurd h2 h1) (fun h2 => ?_)
    refine lv_aload_n hx hb dM_result_17 rfl (lv_at hl 0 rfl) ?_
    refine lv_iconst (v := nI 1) hx hb dM_result_18 (by decide) ?_
    refine mc_i (wc := [(h0, .inr (8, [.int (nI 0), .int 0, .int 0, .int 0, .ref (w 0), .ref (w 1), .ref (w 2), .ref (w 3), .ref (w 4), .ref (w 5), .ref (w 6), .ref (w 7), .ref (w 8), .ref (w 9)]))]) (wr := []) hP hD hS hA [0] [] rfl rfl rfl (by decide) (va_runV (As := [.int (nI 1)]) (rest := []) F (m_M_fail l g _ h0 w (nI 0) 0 0 0 (nI 1)) (cwV 1 hts (wg_app (wg_c kw_1577 (wg_c kw_1579 (wg_c ks_50 (wg_c kw_9 wg_n)))) kw_1580) rfl rfl rfl (by decide +kernel) ⟨by decide, by decide⟩) (pr_V (en_ok g) (q0 := 0) hK hP hD hS hA hE [0] rfl rfl rfl rfl) rfl rfl hl.1 rfl (lv_room (Nat.le_of_ble_eq_true rfl)) dM_result_19 ⟨(by decide), (by decide)⟩) (fun r2 u2 H locs hu2 hP hD hS => ?_)
    subst hu2
    have hP : va_P g.1 vcl [(h0, .inr (8, [.int (nI 1), .int 0, .int 0, .int 0, .ref (w 0), .ref (w 1), .ref (w 2), .ref (w 3), .ref (w 4), .ref (w 5), .ref (w 6), .ref (w 7), .ref (w 8), .ref (w 9)]))] _ := hP
    have hD : va_D _ [(h0, .inr (8, [.int (nI 1), .int 0, .int 0, .int 0, .ref (w 0), .ref (w 1), .ref (w 2), .ref (w 3), .ref (w 4), .ref (w 5), .ref (w 6), .ref (w 7), .ref (w 8), .ref (w 9)]))] := hD
    refine W.widen (k := 0) (n := 0) (by omega) (by omega) ?_
    refine lv_goto (tgt := 35) hx hb dM_result_22 (by decide) ?_
    exact mc_iret hx hb hr hlk hP hD hS () rfl [0] rfl rfl (by omega) (by omega) dM_result_35
set_option maxHeartbeats 400000 in
set_option maxRecDepth 100000 in
theorem m_M_count (l : Launch) (g : Gd) (sz : Nat) (h0 : Nat) (w : Nat → Nat) (v : Int32)  : Met l y_M_count w_M_count ({ frames := 1, cells := 0, slots := 0, locals := 40 } : Room) (va_Pc [.ref h0, .int v] (pr (en g) g.1 vcl sz [(h0, .inr (8, [.int 0, .int 0, .int 0, .int 0, .ref (w 0), .ref (w 1), .ref (w 2), .ref (w 3), .ref (w 4), .ref (w 5), .ref (w 6), .ref (w 7), .ref (w 8), .ref (w 9)]))])) (va_Qi (fun (r : Int32) (u : Unit) => r = cnt v) (po g.1 vcl (va_A [(h0, .inr (8, [.int 0, .int 0, .int 0, .int 0, .ref (w 0), .ref (w 1), .ref (w 2), .ref (w 3), .ref (w 4), .ref (w 5), .ref (w 6), .ref (w 7), .ref (w 8), .ref (w 9)]))] sz) (fun (u : Unit) => [(h0, .inr (8, [.int (nI 0), .int 0, .int 0, .int 0, .ref (w 0), .ref (w 1), .ref (w 2), .ref (w 3), .ref (w 4), .ref (w 5), .ref (w 6), .ref (w 7), .ref (w 8), .ref (w 9)]))])) (va_A [(h0, .inr (8, [.int 0, .int 0, .int 0, .int 0, .ref (w 0), .ref (w 1), .ref (w 2), .ref (w 3), .ref (w 4), .ref (w 5), .ref (w 6), .ref (w 7), .ref (w 8), .ref (w 9)]))] sz)) 0 0 (va_A [(h0, .inr (8, [.int 0, .int 0, .int 0, .int 0, .ref (w 0), .ref (w 1), .ref (w 2), .ref (w 3), .ref (w 4), .ref (w 5), .ref (w 6), .ref (w 7), .ref (w 8), .ref (w 9)]))] sz) := by
  refine mc_entry (cc := c_M_count) (maxL := 2) (ret := (some .int)) (by decide) rfl (Nat.le_of_ble_eq_true rfl) ?_
  intro p e s m args below meth c ls F hr hlk hnm hsz hP hD hE hA hl
  obtain ⟨hx, hb, hml, hown, hts⟩ := id F
  have hK := hE.1
  generalize va_A [(h0, .inr (8, [.int 0, .int 0, .int 0, .int 0, .ref (w 0), .ref (w 1), .ref (w 2), .ref (w 3), .ref (w 4), .ref (w 5), .ref (w 6), .ref (w 7), .ref (w 8), .ref (w 9)]))] sz = A at hD hE hA ⊢
  have hS : va_S A s.heap s.heap [] := va_S.rf
  have hl : lv_has ls 2 [(0, .ref h0), (1, .int v)] := hl
  refine lv_aload_n hx hb dM_count_0 rfl (lv_at hl 0 rfl) ?_
  refine lv_iconst (v := nI 0) hx hb dM_count_1 (by decide) ?_
  refine va_put (D := g.1) (ci := 8) (v := .int (nI 0)) (ty := .int) (C := "LatticeKeysModel") (T := T_M) (N := 14) hx hb hts (wg_ft i_M) ty_M k_M n_M hown hK hP hD hS 0 rfl rfl 0 (by decide) (hts _ (wg_t kw_1526)) (fun _ h9 => h9) rfl (by decide +kernel) rfl rfl (Nat.le_of_ble_eq_true rfl) dM_count_2 (fun H locs hP hD hS => ?_)
  have hP : va_P g.1 vcl [(h0, .inr (8, [.int (nI 0), .int 0, .int 0, .int 0, .ref (w 0), .ref (w 1), .ref (w 2), .ref (w 3), .ref (w 4), .ref (w 5), .ref (w 6), .ref (w 7), .ref (w 8), .ref (w 9)]))] _ := hP
  have hD : va_D _ [(h0, .inr (8, [.int (nI 0), .int 0, .int 0, .int 0, .ref (w 0), .ref (w 1), .ref (w 2), .ref (w 3), .ref (w 4), .ref (w 5), .ref (w 6), .ref (w 7), .ref (w 8), .ref (w 9)]))] := hD
  refine lv_iload_n hx hb dM_count_5 rfl (lv_at hl 1 rfl) ?_
  refine lv_if_ne (tgt := 16) hx hb dM_count_6 (by decide) (fun h1 => ?_) (fun h1 => ?_)
  · refine lv_iload_n hx hb dM_count_16 rfl (lv_at hl 1 rfl) ?_
    refine lv_iconst (v := nI 1) hx hb dM_count_17 (by decide) ?_
    refine lv_icmp_ne (tgt := 28) hx hb dM_count_18 (by decide) (fun h2 => ?_) (fun h2 => ?_)
    · refine lv_iload_n hx hb dM_count_28 rfl (lv_at hl 1 rfl) ?_
      refine lv_iconst (v := nI 2) hx hb dM_count_29 (by decide) ?_
      refine lv_icmp_ne (tgt := 40) hx hb dM_count_30 (by decide) (fun h3 => ?_) (fun h3 => ?_)
      · refine lv_iconst (v := (-1)) hx hb dM_count_40 (by decide) ?_
        exact mc_iret hx hb hr hlk hP hD hS () (by unfold cnt; rw [if_neg (show ¬ v = 0 from h1), if_neg (show ¬ v = 1 from h2), if_neg (show ¬ v = 2 from h3)]) [0] rfl rfl (by omega) (by omega) dM_count_41
      · refine lv_aload_n hx hb dM_count_33 rfl (lv_at hl 0 rfl) ?_
        refine va_get (D := g.1) (ci := 8) (C := "LatticeKeysModel") (T := T_M) (N := 14) hx hb hts (wg_ft i_M) hown hK hP 0 rfl rfl 2 (by decide) (hts _ (wg_t kw_1528)) (fun _ h9 => h9) rfl dM_count_34 ?_
        refine mi_as (show (0 : Int32) = nI 0 from rfl) ?_
        refine lv_goto (tgt := 41) hx hb dM_count_37 (by decide) ?_
        exact mc_iret hx hb hr hlk hP hD hS () (by unfold cnt; rw [if_neg (show ¬ v = 0 from h1), if_neg (show ¬ v = 1 from h2), if_pos (show v = 2 from h3)]) [0] rfl rfl (by omega) (by omega) dM_count_41
    · refine lv_aload_n hx hb dM_count_21 rfl (lv_at hl 0 rfl) ?_
      refine va_get (D := g.1) (ci := 8) (C := "LatticeKeysModel") (T := T_M) (N := 14) hx hb hts (wg_ft i_M) hown hK hP 0 rfl rfl 3 (by decide) (hts _ (wg_t kw_1529)) (fun _ h9 => h9) rfl dM_count_22 ?_
      refine mi_as (show (0 : Int32) = nI 0 from rfl) ?_
      refine lv_goto (tgt := 41) hx hb dM_count_25 (by decide) ?_
      exact mc_iret hx hb hr hlk hP hD hS () (by unfold cnt; rw [if_neg (show ¬ v = 0 from h1), if_pos (show v = 1 from h2)]) [0] rfl rfl (by omega) (by omega) dM_count_41
  · refine lv_aload_n hx hb dM_count_9 rfl (lv_at hl 0 rfl) ?_
    refine va_get (D := g.1) (ci := 8) (C := "LatticeKeysModel") (T := T_M) (N := 14) hx hb hts (wg_ft i_M) hown hK hP 0 rfl rfl 1 (by decide) (hts _ (wg_t kw_1527)) (fun _ h9 => h9) rfl dM_count_10 ?_
    refine mi_as (show (0 : Int32) = nI 0 from rfl) ?_
    refine lv_goto (tgt := 41) hx hb dM_count_13 (by decide) ?_
    exact mc_iret hx hb hr hlk hP hD hS () (by unfold cnt; rw [if_pos (show v = 0 from h1)]) [0] rfl rfl (by omega) (by omega) dM_count_41
