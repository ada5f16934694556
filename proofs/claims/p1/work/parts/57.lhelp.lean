abbrev c_L_feed : ByteArray := method_3_code
abbrev y_L_feed : MethodName := ⟨"LatticeKeysLaw", "feed", "(LLatticeKeys;IIIII[J)I"⟩
abbrev w_L_feed : List Cond := Cond.codeWith y_L_feed c_L_feed 8 (some .int) [(0, 16, 19, 13)] :: WG
theorem dL_feed_0 : decode c_L_feed 0 = .ok (.aload 6, 2) := by decide +kernel
theorem dL_feed_2 : decode c_L_feed 2 = .ok (.iconst 0, 1) := by decide +kernel
theorem dL_feed_3 : decode c_L_feed 3 = .ok (.aload_n 0, 1) := by decide +kernel
theorem dL_feed_4 : decode c_L_feed 4 = .ok (.iload_n 1, 1) := by decide +kernel
theorem dL_feed_5 : decode c_L_feed 5 = .ok (.iload_n 2, 1) := by decide +kernel
theorem dL_feed_6 : decode c_L_feed 6 = .ok (.iload_n 3, 1) := by decide +kernel
theorem dL_feed_7 : decode c_L_feed 7 = .ok (.iload 4, 2) := by decide +kernel
theorem dL_feed_9 : decode c_L_feed 9 = .ok (.iload 5, 2) := by decide +kernel
theorem dL_feed_11 : decode c_L_feed 11 = .ok (.invokevirtual 7, 3) := by decide +kernel
theorem dL_feed_14 : decode c_L_feed 14 = .ok (.i2l, 1) := by decide +kernel
theorem dL_feed_15 : decode c_L_feed 15 = .ok (.lastore, 1) := by decide +kernel
theorem dL_feed_16 : decode c_L_feed 16 = .ok (.goto 7, 3) := by decide +kernel
theorem dL_feed_19 : decode c_L_feed 19 = .ok (.astore 7, 2) := by decide +kernel
theorem dL_feed_21 : decode c_L_feed 21 = .ok (.iconst 1, 1) := by decide +kernel
theorem dL_feed_22 : decode c_L_feed 22 = .ok (.ireturn, 1) := by decide +kernel
theorem dL_feed_23 : decode c_L_feed 23 = .ok (.iconst 0, 1) := by decide +kernel
theorem dL_feed_24 : decode c_L_feed 24 = .ok (.ireturn, 1) := by decide +kernel
abbrev c_L_end : ByteArray := method_4_code
abbrev y_L_end : MethodName := ⟨"LatticeKeysLaw", "end", "(LLatticeKeys;I[J)I"⟩
abbrev w_L_end : List Cond := Cond.codeWith y_L_end c_L_end 4 (some .int) [(0, 9, 12, 19)] :: WG
theorem dL_end_0 : decode c_L_end 0 = .ok (.aload_n 2, 1) := by decide +kernel
theorem dL_end_1 : decode c_L_end 1 = .ok (.iconst 0, 1) := by decide +kernel
theorem dL_end_2 : decode c_L_end 2 = .ok (.aload_n 0, 1) := by decide +kernel
theorem dL_end_3 : decode c_L_end 3 = .ok (.iload_n 1, 1) := by decide +kernel
theorem dL_end_4 : decode c_L_end 4 = .ok (.invokevirtual 15, 3) := by decide +kernel
theorem dL_end_7 : decode c_L_end 7 = .ok (.i2l, 1) := by decide +kernel
theorem dL_end_8 : decode c_L_end 8 = .ok (.lastore, 1) := by decide +kernel
theorem dL_end_9 : decode c_L_end 9 = .ok (.goto 6, 3) := by decide +kernel
theorem dL_end_12 : decode c_L_end 12 = .ok (.astore_n 3, 1) := by decide +kernel
theorem dL_end_13 : decode c_L_end 13 = .ok (.iconst 1, 1) := by decide +kernel
theorem dL_end_14 : decode c_L_end 14 = .ok (.ireturn, 1) := by decide +kernel
theorem dL_end_15 : decode c_L_end 15 = .ok (.iconst 0, 1) := by decide +kernel
theorem dL_end_16 : decode c_L_end 16 = .ok (.ireturn, 1) := by decide +kernel
abbrev c_L_again : ByteArray := method_5_code
abbrev y_L_again : MethodName := ⟨"LatticeKeysLaw", "again", "(LLatticeKeys;[J)I"⟩
abbrev w_L_again : List Cond := Cond.codeWith y_L_again c_L_again 3 (some .int) [(0, 8, 11, 13)] :: WG
theorem dL_again_0 : decode c_L_again 0 = .ok (.aload_n 1, 1) := by decide +kernel
theorem dL_again_1 : decode c_L_again 1 = .ok (.iconst 0, 1) := by decide +kernel
theorem dL_again_2 : decode c_L_again 2 = .ok (.aload_n 0, 1) := by decide +kernel
theorem dL_again_3 : decode c_L_again 3 = .ok (.invokevirtual 21, 3) := by decide +kernel
theorem dL_again_6 : decode c_L_again 6 = .ok (.i2l, 1) := by decide +kernel
theorem dL_again_7 : decode c_L_again 7 = .ok (.lastore, 1) := by decide +kernel
theorem dL_again_8 : decode c_L_again 8 = .ok (.goto 6, 3) := by decide +kernel
theorem dL_again_11 : decode c_L_again 11 = .ok (.astore_n 2, 1) := by decide +kernel
theorem dL_again_12 : decode c_L_again 12 = .ok (.iconst 1, 1) := by decide +kernel
theorem dL_again_13 : decode c_L_again 13 = .ok (.ireturn, 1) := by decide +kernel
theorem dL_again_14 : decode c_L_again 14 = .ok (.iconst 0, 1) := by decide +kernel
theorem dL_again_15 : decode c_L_again 15 = .ok (.ireturn, 1) := by decide +kernel
abbrev c_L_alter : ByteArray := method_6_code
abbrev y_L_alter : MethodName := ⟨"LatticeKeysLaw", "alter", "(LLatticeKeys;II[J)I"⟩
abbrev w_L_alter : List Cond := Cond.codeWith y_L_alter c_L_alter 5 (some .int) [(0, 10, 13, 29)] :: WG
theorem dL_alter_0 : decode c_L_alter 0 = .ok (.aload_n 3, 1) := by decide +kernel
theorem dL_alter_1 : decode c_L_alter 1 = .ok (.iconst 0, 1) := by decide +kernel
theorem dL_alter_2 : decode c_L_alter 2 = .ok (.aload_n 0, 1) := by decide +kernel
theorem dL_alter_3 : decode c_L_alter 3 = .ok (.iload_n 1, 1) := by decide +kernel
theorem dL_alter_4 : decode c_L_alter 4 = .ok (.iload_n 2, 1) := by decide +kernel
theorem dL_alter_5 : decode c_L_alter 5 = .ok (.invokevirtual 25, 3) := by decide +kernel
theorem dL_alter_8 : decode c_L_alter 8 = .ok (.i2l, 1) := by decide +kernel
theorem dL_alter_9 : decode c_L_alter 9 = .ok (.lastore, 1) := by decide +kernel
theorem dL_alter_10 : decode c_L_alter 10 = .ok (.goto 7, 3) := by decide +kernel
theorem dL_alter_13 : decode c_L_alter 13 = .ok (.astore 4, 2) := by decide +kernel
theorem dL_alter_15 : decode c_L_alter 15 = .ok (.iconst 1, 1) := by decide +kernel
theorem dL_alter_16 : decode c_L_alter 16 = .ok (.ireturn, 1) := by decide +kernel
theorem dL_alter_17 : decode c_L_alter 17 = .ok (.iconst 0, 1) := by decide +kernel
theorem dL_alter_18 : decode c_L_alter 18 = .ok (.ireturn, 1) := by decide +kernel
abbrev c_L_keys : ByteArray := method_7_code
abbrev y_L_keys : MethodName := ⟨"LatticeKeysLaw", "keys", "(LLatticeKeys;I[J)I"⟩
abbrev w_L_keys : List Cond := Cond.codeWith y_L_keys c_L_keys 4 (some .int) [(0, 9, 12, 19), (0, 9, 15, 13)] :: WG
theorem dL_keys_0 : decode c_L_keys 0 = .ok (.aload_n 2, 1) := by decide +kernel
theorem dL_keys_1 : decode c_L_keys 1 = .ok (.iconst 0, 1) := by decide +kernel
theorem dL_keys_2 : decode c_L_keys 2 = .ok (.aload_n 0, 1) := by decide +kernel
theorem dL_keys_3 : decode c_L_keys 3 = .ok (.iload_n 1, 1) := by decide +kernel
theorem dL_keys_4 : decode c_L_keys 4 = .ok (.invokevirtual 31, 3) := by decide +kernel
theorem dL_keys_7 : decode c_L_keys 7 = .ok (.i2l, 1) := by decide +kernel
theorem dL_keys_8 : decode c_L_keys 8 = .ok (.lastore, 1) := by decide +kernel
theorem dL_keys_9 : decode c_L_keys 9 = .ok (.goto 9, 3) := by decide +kernel
theorem dL_keys_12 : decode c_L_keys 12 = .ok (.astore_n 3, 1) := by decide +kernel
theorem dL_keys_13 : decode c_L_keys 13 = .ok (.iconst 1, 1) := by decide +kernel
theorem dL_keys_14 : decode c_L_keys 14 = .ok (.ireturn, 1) := by decide +kernel
theorem dL_keys_15 : decode c_L_keys 15 = .ok (.astore_n 3, 1) := by decide +kernel
theorem dL_keys_16 : decode c_L_keys 16 = .ok (.iconst 2, 1) := by decide +kernel
theorem dL_keys_17 : decode c_L_keys 17 = .ok (.ireturn, 1) := by decide +kernel
theorem dL_keys_18 : decode c_L_keys 18 = .ok (.iconst 0, 1) := by decide +kernel
theorem dL_keys_19 : decode c_L_keys 19 = .ok (.ireturn, 1) := by decide +kernel
abbrev c_L_load : ByteArray := method_8_code
abbrev y_L_load : MethodName := ⟨"LatticeKeysLaw", "load", "(LLatticeKeys;IZ[J)I"⟩
abbrev w_L_load : List Cond := Cond.codeWith y_L_load c_L_load 5 (some .int) [(0, 10, 13, 19), (0, 10, 17, 38), (0, 10, 21, 13)] :: WG
theorem dL_load_0 : decode c_L_load 0 = .ok (.aload_n 3, 1) := by decide +kernel
theorem dL_load_1 : decode c_L_load 1 = .ok (.iconst 0, 1) := by decide +kernel
theorem dL_load_2 : decode c_L_load 2 = .ok (.aload_n 0, 1) := by decide +kernel
theorem dL_load_3 : decode c_L_load 3 = .ok (.iload_n 1, 1) := by decide +kernel
theorem dL_load_4 : decode c_L_load 4 = .ok (.iload_n 2, 1) := by decide +kernel
theorem dL_load_5 : decode c_L_load 5 = .ok (.invokevirtual 34, 3) := by decide +kernel
theorem dL_load_8 : decode c_L_load 8 = .ok (.i2l, 1) := by decide +kernel
theorem dL_load_9 : decode c_L_load 9 = .ok (.lastore, 1) := by decide +kernel
theorem dL_load_10 : decode c_L_load 10 = .ok (.goto 15, 3) := by decide +kernel
theorem dL_load_13 : decode c_L_load 13 = .ok (.astore 4, 2) := by decide +kernel
theorem dL_load_15 : decode c_L_load 15 = .ok (.iconst 1, 1) := by decide +kernel
theorem dL_load_16 : decode c_L_load 16 = .ok (.ireturn, 1) := by decide +kernel
theorem dL_load_17 : decode c_L_load 17 = .ok (.astore 4, 2) := by decide +kernel
theorem dL_load_19 : decode c_L_load 19 = .ok (.iconst 2, 1) := by decide +kernel
theorem dL_load_20 : decode c_L_load 20 = .ok (.ireturn, 1) := by decide +kernel
theorem dL_load_21 : decode c_L_load 21 = .ok (.astore 4, 2) := by decide +kernel
theorem dL_load_23 : decode c_L_load 23 = .ok (.iconst 3, 1) := by decide +kernel
theorem dL_load_24 : decode c_L_load 24 = .ok (.ireturn, 1) := by decide +kernel
theorem dL_load_25 : decode c_L_load 25 = .ok (.iconst 0, 1) := by decide +kernel
theorem dL_load_26 : decode c_L_load 26 = .ok (.ireturn, 1) := by decide +kernel
abbrev c_L_part : ByteArray := method_9_code
abbrev y_L_part : MethodName := ⟨"LatticeKeysLaw", "part", "(LLatticeKeys;IZI[J)I"⟩
abbrev w_L_part : List Cond := Cond.codeWith y_L_part c_L_part 6 (some .int) [(0, 12, 15, 44), (0, 12, 19, 29)] :: WG
theorem dL_part_0 : decode c_L_part 0 = .ok (.aload 4, 2) := by decide +kernel
theorem dL_part_2 : decode c_L_part 2 = .ok (.iconst 0, 1) := by decide +kernel
theorem dL_part_3 : decode c_L_part 3 = .ok (.aload_n 0, 1) := by decide +kernel
theorem dL_part_4 : decode c_L_part 4 = .ok (.iload_n 1, 1) := by decide +kernel
theorem dL_part_5 : decode c_L_part 5 = .ok (.iload_n 2, 1) := by decide +kernel
theorem dL_part_6 : decode c_L_part 6 = .ok (.iload_n 3, 1) := by decide +kernel
theorem dL_part_7 : decode c_L_part 7 = .ok (.invokevirtual 40, 3) := by decide +kernel
theorem dL_part_10 : decode c_L_part 10 = .ok (.i2l, 1) := by decide +kernel
theorem dL_part_11 : decode c_L_part 11 = .ok (.lastore, 1) := by decide +kernel
theorem dL_part_12 : decode c_L_part 12 = .ok (.goto 11, 3) := by decide +kernel
theorem dL_part_15 : decode c_L_part 15 = .ok (.astore 5, 2) := by decide +kernel
theorem dL_part_17 : decode c_L_part 17 = .ok (.iconst 1, 1) := by decide +kernel
theorem dL_part_18 : decode c_L_part 18 = .ok (.ireturn, 1) := by decide +kernel
theorem dL_part_19 : decode c_L_part 19 = .ok (.astore 5, 2) := by decide +kernel
theorem dL_part_21 : decode c_L_part 21 = .ok (.iconst 2, 1) := by decide +kernel
theorem dL_part_22 : decode c_L_part 22 = .ok (.ireturn, 1) := by decide +kernel
theorem dL_part_23 : decode c_L_part 23 = .ok (.iconst 0, 1) := by decide +kernel
theorem dL_part_24 : decode c_L_part 24 = .ok (.ireturn, 1) := by decide +kernel
abbrev c_L_show : ByteArray := method_10_code
abbrev y_L_show : MethodName := ⟨"LatticeKeysLaw", "show", "(LLatticeKeys;IZ[J)I"⟩
abbrev w_L_show : List Cond := Cond.codeWith y_L_show c_L_show 5 (some .int) [(0, 10, 13, 44)] :: WG
theorem dL_show_0 : decode c_L_show 0 = .ok (.aload_n 3, 1) := by decide +kernel
theorem dL_show_1 : decode c_L_show 1 = .ok (.iconst 0, 1) := by decide +kernel
theorem dL_show_2 : decode c_L_show 2 = .ok (.aload_n 0, 1) := by decide +kernel
theorem dL_show_3 : decode c_L_show 3 = .ok (.iload_n 1, 1) := by decide +kernel
theorem dL_show_4 : decode c_L_show 4 = .ok (.iload_n 2, 1) := by decide +kernel
theorem dL_show_5 : decode c_L_show 5 = .ok (.invokevirtual 46, 3) := by decide +kernel
theorem dL_show_8 : decode c_L_show 8 = .ok (.i2l, 1) := by decide +kernel
theorem dL_show_9 : decode c_L_show 9 = .ok (.lastore, 1) := by decide +kernel
theorem dL_show_10 : decode c_L_show 10 = .ok (.goto 7, 3) := by decide +kernel
theorem dL_show_13 : decode c_L_show 13 = .ok (.astore 4, 2) := by decide +kernel
theorem dL_show_15 : decode c_L_show 15 = .ok (.iconst 1, 1) := by decide +kernel
theorem dL_show_16 : decode c_L_show 16 = .ok (.ireturn, 1) := by decide +kernel
theorem dL_show_17 : decode c_L_show 17 = .ok (.iconst 0, 1) := by decide +kernel
theorem dL_show_18 : decode c_L_show 18 = .ok (.ireturn, 1) := by decide +kernel
abbrev c_L_told : ByteArray := method_11_code
abbrev y_L_told : MethodName := ⟨"LatticeKeysLaw", "told", "(LLatticeKeys;II[J)I"⟩
abbrev w_L_told : List Cond := Cond.codeWith y_L_told c_L_told 5 (some .int) [(0, 10, 13, 44), (0, 10, 17, 19)] :: WG
theorem dL_told_0 : decode c_L_told 0 = .ok (.aload_n 3, 1) := by decide +kernel
theorem dL_told_1 : decode c_L_told 1 = .ok (.iconst 0, 1) := by decide +kernel
theorem dL_told_2 : decode c_L_told 2 = .ok (.aload_n 0, 1) := by decide +kernel
theorem dL_told_3 : decode c_L_told 3 = .ok (.iload_n 1, 1) := by decide +kernel
theorem dL_told_4 : decode c_L_told 4 = .ok (.iload_n 2, 1) := by decide +kernel
theorem dL_told_5 : decode c_L_told 5 = .ok (.invokevirtual 49, 3) := by decide +kernel
theorem dL_told_8 : decode c_L_told 8 = .ok (.i2l, 1) := by decide +kernel
theorem dL_told_9 : decode c_L_told 9 = .ok (.lastore, 1) := by decide +kernel
theorem dL_told_10 : decode c_L_told 10 = .ok (.goto 11, 3) := by decide +kernel
theorem dL_told_13 : decode c_L_told 13 = .ok (.astore 4, 2) := by decide +kernel
theorem dL_told_15 : decode c_L_told 15 = .ok (.iconst 1, 1) := by decide +kernel
theorem dL_told_16 : decode c_L_told 16 = .ok (.ireturn, 1) := by decide +kernel
theorem dL_told_17 : decode c_L_told 17 = .ok (.astore 4, 2) := by decide +kernel
theorem dL_told_19 : decode c_L_told 19 = .ok (.iconst 2, 1) := by decide +kernel
theorem dL_told_20 : decode c_L_told 20 = .ok (.ireturn, 1) := by decide +kernel
theorem dL_told_21 : decode c_L_told 21 = .ok (.iconst 0, 1) := by decide +kernel
theorem dL_told_22 : decode c_L_told 22 = .ok (.ireturn, 1) := by decide +kernel
abbrev c_L_seal : ByteArray := method_12_code
abbrev y_L_seal : MethodName := ⟨"LatticeKeysLaw", "seal", "(LLatticeKeys;I[J)I"⟩
abbrev w_L_seal : List Cond := Cond.codeWith y_L_seal c_L_seal 4 (some .int) [(0, 9, 12, 44), (0, 9, 15, 19)] :: WG
theorem dL_seal_0 : decode c_L_seal 0 = .ok (.aload_n 2, 1) := by decide +kernel
theorem dL_seal_1 : decode c_L_seal 1 = .ok (.iconst 0, 1) := by decide +kernel
theorem dL_seal_2 : decode c_L_seal 2 = .ok (.aload_n 0, 1) := by decide +kernel
theorem dL_seal_3 : decode c_L_seal 3 = .ok (.iload_n 1, 1) := by decide +kernel
theorem dL_seal_4 : decode c_L_seal 4 = .ok (.invokevirtual 52, 3) := by decide +kernel
theorem dL_seal_7 : decode c_L_seal 7 = .ok (.i2l, 1) := by decide +kernel
theorem dL_seal_8 : decode c_L_seal 8 = .ok (.lastore, 1) := by decide +kernel
theorem dL_seal_9 : decode c_L_seal 9 = .ok (.goto 9, 3) := by decide +kernel
theorem dL_seal_12 : decode c_L_seal 12 = .ok (.astore_n 3, 1) := by decide +kernel
theorem dL_seal_13 : decode c_L_seal 13 = .ok (.iconst 1, 1) := by decide +kernel
theorem dL_seal_14 : decode c_L_seal 14 = .ok (.ireturn, 1) := by decide +kernel
theorem dL_seal_15 : decode c_L_seal 15 = .ok (.astore_n 3, 1) := by decide +kernel
theorem dL_seal_16 : decode c_L_seal 16 = .ok (.iconst 2, 1) := by decide +kernel
theorem dL_seal_17 : decode c_L_seal 17 = .ok (.ireturn, 1) := by decide +kernel
theorem dL_seal_18 : decode c_L_seal 18 = .ok (.iconst 0, 1) := by decide +kernel
theorem dL_seal_19 : decode c_L_seal 19 = .ok (.ireturn, 1) := by decide +kernel
abbrev c_L_open : ByteArray := method_13_code
abbrev y_L_open : MethodName := ⟨"LatticeKeysLaw", "open", "(LLatticeKeys;I[J)I"⟩
abbrev w_L_open : List Cond := Cond.codeWith y_L_open c_L_open 4 (some .int) [(0, 9, 12, 44), (0, 9, 15, 19)] :: WG
theorem dL_open_0 : decode c_L_open 0 = .ok (.aload_n 2, 1) := by decide +kernel
theorem dL_open_1 : decode c_L_open 1 = .ok (.iconst 0, 1) := by decide +kernel
theorem dL_open_2 : decode c_L_open 2 = .ok (.aload_n 0, 1) := by decide +kernel
theorem dL_open_3 : decode c_L_open 3 = .ok (.iload_n 1, 1) := by decide +kernel
theorem dL_open_4 : decode c_L_open 4 = .ok (.invokevirtual 55, 3) := by decide +kernel
theorem dL_open_7 : decode c_L_open 7 = .ok (.i2l, 1) := by decide +kernel
theorem dL_open_8 : decode c_L_open 8 = .ok (.lastore, 1) := by decide +kernel
theorem dL_open_9 : decode c_L_open 9 = .ok (.goto 9, 3) := by decide +kernel
theorem dL_open_12 : decode c_L_open 12 = .ok (.astore_n 3, 1) := by decide +kernel
theorem dL_open_13 : decode c_L_open 13 = .ok (.iconst 1, 1) := by decide +kernel
theorem dL_open_14 : decode c_L_open 14 = .ok (.ireturn, 1) := by decide +kernel
theorem dL_open_15 : decode c_L_open 15 = .ok (.astore_n 3, 1) := by decide +kernel
theorem dL_open_16 : decode c_L_open 16 = .ok (.iconst 2, 1) := by decide +kernel
theorem dL_open_17 : decode c_L_open 17 = .ok (.ireturn, 1) := by decide +kernel
theorem dL_open_18 : decode c_L_open 18 = .ok (.iconst 0, 1) := by decide +kernel
theorem dL_open_19 : decode c_L_open 19 = .ok (.ireturn, 1) := by decide +kernel
abbrev c_L_sign : ByteArray := method_14_code
abbrev y_L_sign : MethodName := ⟨"LatticeKeysLaw", "sign", "(LLatticeKeys;II[J)I"⟩
abbrev w_L_sign : List Cond := Cond.codeWith y_L_sign c_L_sign 5 (some .int) [(0, 10, 13, 44), (0, 10, 17, 19), (0, 10, 21, 13)] :: WG
theorem dL_sign_0 : decode c_L_sign 0 = .ok (.aload_n 3, 1) := by decide +kernel
theorem dL_sign_1 : decode c_L_sign 1 = .ok (.iconst 0, 1) := by decide +kernel
theorem dL_sign_2 : decode c_L_sign 2 = .ok (.aload_n 0, 1) := by decide +kernel
theorem dL_sign_3 : decode c_L_sign 3 = .ok (.iload_n 1, 1) := by decide +kernel
theorem dL_sign_4 : decode c_L_sign 4 = .ok (.iload_n 2, 1) := by decide +kernel
theorem dL_sign_5 : decode c_L_sign 5 = .ok (.invokevirtual 58, 3) := by decide +kernel
theorem dL_sign_8 : decode c_L_sign 8 = .ok (.i2l, 1) := by decide +kernel
theorem dL_sign_9 : decode c_L_sign 9 = .ok (.lastore, 1) := by decide +kernel
theorem dL_sign_10 : decode c_L_sign 10 = .ok (.goto 15, 3) := by decide +kernel
theorem dL_sign_13 : decode c_L_sign 13 = .ok (.astore 4, 2) := by decide +kernel
theorem dL_sign_15 : decode c_L_sign 15 = .ok (.iconst 1, 1) := by decide +kernel
theorem dL_sign_16 : decode c_L_sign 16 = .ok (.ireturn, 1) := by decide +kernel
theorem dL_sign_17 : decode c_L_sign 17 = .ok (.astore 4, 2) := by decide +kernel
theorem dL_sign_19 : decode c_L_sign 19 = .ok (.iconst 2, 1) := by decide +kernel
theorem dL_sign_20 : decode c_L_sign 20 = .ok (.ireturn, 1) := by decide +kernel
theorem dL_sign_21 : decode c_L_sign 21 = .ok (.astore 4, 2) := by decide +kernel
theorem dL_sign_23 : decode c_L_sign 23 = .ok (.iconst 3, 1) := by decide +kernel
theorem dL_sign_24 : decode c_L_sign 24 = .ok (.ireturn, 1) := by decide +kernel
theorem dL_sign_25 : decode c_L_sign 25 = .ok (.iconst 0, 1) := by decide +kernel
theorem dL_sign_26 : decode c_L_sign 26 = .ok (.ireturn, 1) := by decide +kernel
abbrev c_L_verify : ByteArray := method_15_code
abbrev y_L_verify : MethodName := ⟨"LatticeKeysLaw", "verify", "(LLatticeKeys;II[J)I"⟩
abbrev w_L_verify : List Cond := Cond.codeWith y_L_verify c_L_verify 5 (some .int) [(0, 17, 20, 44), (0, 17, 24, 19)] :: WG
theorem dL_verify_0 : decode c_L_verify 0 = .ok (.aload_n 3, 1) := by decide +kernel
theorem dL_verify_1 : decode c_L_verify 1 = .ok (.iconst 0, 1) := by decide +kernel
theorem dL_verify_2 : decode c_L_verify 2 = .ok (.aload_n 0, 1) := by decide +kernel
theorem dL_verify_3 : decode c_L_verify 3 = .ok (.iload_n 1, 1) := by decide +kernel
theorem dL_verify_4 : decode c_L_verify 4 = .ok (.iload_n 2, 1) := by decide +kernel
theorem dL_verify_5 : decode c_L_verify 5 = .ok (.invokevirtual 61, 3) := by decide +kernel
theorem dL_verify_8 : decode c_L_verify 8 = .ok (.ifCond .eq 7, 3) := by decide +kernel
theorem dL_verify_11 : decode c_L_verify 11 = .ok (.lconst 1, 1) := by decide +kernel
theorem dL_verify_12 : decode c_L_verify 12 = .ok (.goto 4, 3) := by decide +kernel
theorem dL_verify_15 : decode c_L_verify 15 = .ok (.lconst 0, 1) := by decide +kernel
theorem dL_verify_16 : decode c_L_verify 16 = .ok (.lastore, 1) := by decide +kernel
theorem dL_verify_17 : decode c_L_verify 17 = .ok (.goto 11, 3) := by decide +kernel
theorem dL_verify_20 : decode c_L_verify 20 = .ok (.astore 4, 2) := by decide +kernel
theorem dL_verify_22 : decode c_L_verify 22 = .ok (.iconst 1, 1) := by decide +kernel
theorem dL_verify_23 : decode c_L_verify 23 = .ok (.ireturn, 1) := by decide +kernel
theorem dL_verify_24 : decode c_L_verify 24 = .ok (.astore 4, 2) := by decide +kernel
theorem dL_verify_26 : decode c_L_verify 26 = .ok (.iconst 2, 1) := by decide +kernel
theorem dL_verify_27 : decode c_L_verify 27 = .ok (.ireturn, 1) := by decide +kernel
theorem dL_verify_28 : decode c_L_verify 28 = .ok (.iconst 0, 1) := by decide +kernel
theorem dL_verify_29 : decode c_L_verify 29 = .ok (.ireturn, 1) := by decide +kernel
abbrev c_L_hash : ByteArray := method_16_code
abbrev y_L_hash : MethodName := ⟨"LatticeKeysLaw", "hash", "(LLatticeKeys;II[J)I"⟩
abbrev w_L_hash : List Cond := Cond.codeWith y_L_hash c_L_hash 5 (some .int) [(0, 10, 13, 19)] :: WG
theorem dL_hash_0 : decode c_L_hash 0 = .ok (.aload_n 3, 1) := by decide +kernel
theorem dL_hash_1 : decode c_L_hash 1 = .ok (.iconst 0, 1) := by decide +kernel
theorem dL_hash_2 : decode c_L_hash 2 = .ok (.aload_n 0, 1) := by decide +kernel
theorem dL_hash_3 : decode c_L_hash 3 = .ok (.iload_n 1, 1) := by decide +kernel
theorem dL_hash_4 : decode c_L_hash 4 = .ok (.iload_n 2, 1) := by decide +kernel
theorem dL_hash_5 : decode c_L_hash 5 = .ok (.invokevirtual 65, 3) := by decide +kernel
theorem dL_hash_8 : decode c_L_hash 8 = .ok (.i2l, 1) := by decide +kernel
theorem dL_hash_9 : decode c_L_hash 9 = .ok (.lastore, 1) := by decide +kernel
theorem dL_hash_10 : decode c_L_hash 10 = .ok (.goto 7, 3) := by decide +kernel
theorem dL_hash_13 : decode c_L_hash 13 = .ok (.astore 4, 2) := by decide +kernel
theorem dL_hash_15 : decode c_L_hash 15 = .ok (.iconst 1, 1) := by decide +kernel
theorem dL_hash_16 : decode c_L_hash 16 = .ok (.ireturn, 1) := by decide +kernel
theorem dL_hash_17 : decode c_L_hash 17 = .ok (.iconst 0, 1) := by decide +kernel
theorem dL_hash_18 : decode c_L_hash 18 = .ok (.ireturn, 1) := by decide +kernel
abbrev c_L_result : ByteArray := method_17_code
abbrev y_L_result : MethodName := ⟨"LatticeKeysLaw", "result", "(LLatticeKeys;I[J)I"⟩
abbrev w_L_result : List Cond := Cond.codeWith y_L_result c_L_result 4 (some .int) [(0, 9, 12, 29)] :: WG
theorem dL_result_0 : decode c_L_result 0 = .ok (.aload_n 2, 1) := by decide +kernel
theorem dL_result_1 : decode c_L_result 1 = .ok (.iconst 0, 1) := by decide +kernel
theorem dL_result_2 : decode c_L_result 2 = .ok (.aload_n 0, 1) := by decide +kernel
theorem dL_result_3 : decode c_L_result 3 = .ok (.iload_n 1, 1) := by decide +kernel
theorem dL_result_4 : decode c_L_result 4 = .ok (.invokevirtual 68, 3) := by decide +kernel
theorem dL_result_7 : decode c_L_result 7 = .ok (.i2l, 1) := by decide +kernel
theorem dL_result_8 : decode c_L_result 8 = .ok (.lastore, 1) := by decide +kernel
theorem dL_result_9 : decode c_L_result 9 = .ok (.goto 6, 3) := by decide +kernel
theorem dL_result_12 : decode c_L_result 12 = .ok (.astore_n 3, 1) := by decide +kernel
theorem dL_result_13 : decode c_L_result 13 = .ok (.iconst 1, 1) := by decide +kernel
theorem dL_result_14 : decode c_L_result 14 = .ok (.ireturn, 1) := by decide +kernel
theorem dL_result_15 : decode c_L_result 15 = .ok (.iconst 0, 1) := by decide +kernel
theorem dL_result_16 : decode c_L_result 16 = .ok (.ireturn, 1) := by decide +kernel
set_option maxHeartbeats 400000 in
set_option maxRecDepth 100000 in
theorem lk_feed (l : Launch) (g : Gd) (sz : Nat) (h0 : Nat) (u : Nat → Nat) (v1 v2 v3 v4 v5 : Int32) (a : Nat) (f : Nat → Int64)  : Met l y_L_feed w_L_feed ({ frames := 5, cells := 0, slots := 0, locals := 180 } : Room) (va_Pc [.ref h0, .int v1, .int v2, .int v3, .int v4, .int v5, .ref a] (pr (en g) g.1 vcl sz [(h0, .inr (0, [.ref (u 0), .int (nI 0), .ref (u 1), .int (nI 0), .ref (u 12), .int (nI 0), .ref (u 2), .ref (u 3), .ref (u 4), .ref (u 13), .ref (u 14)])), (u 0, .inl (g.2.1 1, 16384, .inl ((fun _ => 0)))), (a, .inl (g.2.1 2, 1, .inr (.inl f)))])) (va_Qi (fun (r : Int32) (u : Nat → Int64) => r = nI 0 ∧ u 0 = (nI 20).toInt64) (po g.1 vcl (va_A [(h0, .inr (0, [.ref (u 0), .int (nI 0), .ref (u 1), .int (nI 0), .ref (u 12), .int (nI 0), .ref (u 2), .ref (u 3), .ref (u 4), .ref (u 13), .ref (u 14)])), (u 0, .inl (g.2.1 1, 16384, .inl ((fun _ => 0)))), (a, .inl (g.2.1 2, 1, .inr (.inl f)))] sz) (fun (u : Nat → Int64) => [(a, .inl (g.2.1 2, 1, .inr (.inl u)))])) (va_A [(h0, .inr (0, [.ref (u 0), .int (nI 0), .ref (u 1), .int (nI 0), .ref (u 12), .int (nI 0), .ref (u 2), .ref (u 3), .ref (u 4), .ref (u 13), .ref (u 14)])), (u 0, .inl (g.2.1 1, 16384, .inl ((fun _ => 0)))), (a, .inl (g.2.1 2, 1, .inr (.inl f)))] sz)) 0 0 (va_A [(h0, .inr (0, [.ref (u 0), .int (nI 0), .ref (u 1), .int (nI 0), .ref (u 12), .int (nI 0), .ref (u 2), .ref (u 3), .ref (u 4), .ref (u 13), .ref (u 14)])), (u 0, .inl (g.2.1 1, 16384, .inl ((fun _ => 0)))), (a, .inl (g.2.1 2, 1, .inr (.inl f)))] sz) := by
  refine lc_entry (cc := c_L_feed) (maxL := 8) (ret := (some .int)) (hh := [(0, 16, 19, 13)]) (by decide) rfl (Nat.le_of_ble_eq_true rfl) ?_
  intro p e s m args below meth c ls F hr hlk htab hsz hP hD hE hA hl
  obtain ⟨hx, hb, hml, hown, hts⟩ := id F
  have hK := hE.1
  generalize va_A [(h0, .inr (0, [.ref (u 0), .int (nI 0), .ref (u 1), .int (nI 0), .ref (u 12), .int (nI 0), .ref (u 2), .ref (u 3), .ref (u 4), .ref (u 13), .ref (u 14)])), (u 0, .inl (g.2.1 1, 16384, .inl ((fun _ => 0)))), (a, .inl (g.2.1 2, 1, .inr (.inl f)))] sz = A at hD hE hA ⊢
  have hS : va_S A s.heap s.heap [] := va_S.rf
  have hl : lv_has ls 8 [(0, .ref h0), (1, .int v1), (2, .int v2), (3, .int v3), (4, .int v4), (5, .int v5), (6, .ref a)] := hl
  refine lv_aload hx hb dL_feed_0 (lv_at hl 6 rfl) ?_
  refine lv_iconst (v := nI 0) hx hb dL_feed_2 (by decide) ?_
  refine lv_aload_n hx hb dL_feed_3 rfl (lv_at hl 0 rfl) ?_
  refine lv_iload_n hx hb dL_feed_4 rfl (lv_at hl 1 rfl) ?_
  refine lv_iload_n hx hb dL_feed_5 rfl (lv_at hl 2 rfl) ?_
  refine lv_iload_n hx hb dL_feed_6 rfl (lv_at hl 3 rfl) ?_
  refine lv_iload hx hb dL_feed_7 (lv_at hl 4 rfl) ?_
  refine lv_iload hx hb dL_feed_9 (lv_at hl 5 rfl) ?_
  refine mc_i (wc := [(h0, .inr (0, [.ref (u 0), .int (nI 0), .ref (u 1), .int (nI 0), .ref (u 12), .int (nI 0), .ref (u 2), .ref (u 3), .ref (u 4), .ref (u 13), .ref (u 14)])), (u 0, .inl (g.2.1 1, 16384, .inl ((fun _ => 0))))]) (wr := [(a, .inl (g.2.1 2, 1, .inr (.inl f)))]) hP hD hS hA [0, 1] [2] rfl rfl rfl (by decide) (va_runV (As := [.int v1, .int v2, .int v3, .int v4, .int v5]) (rest := [.int (nI 0), .ref a]) F (m_K_feed l g _ h0 u v1 v2 v3 v4 v5) (cwV 5 hts (wg_app (wg_c kw_416 (wg_c kw_417 (wg_c kw_418 (wg_c kw_1 wg_n)))) kw_419) rfl rfl rfl (by decide +kernel) ⟨by decide, by decide⟩) (pr_V (en_ok g) (q0 := 0) hK hP hD hS hA hE [0, 1] rfl rfl rfl rfl) rfl rfl hl.1 rfl (lv_room (Nat.le_of_ble_eq_true rfl)) dL_feed_11 ⟨(by decide), (by decide)⟩) (fun r1 u1 H locs hu1 hP hD hS => ?_)
  subst hu1
  have hP : va_P g.1 vcl [(a, .inl (g.2.1 2, 1, .inr (.inl f)))] _ := hP
  have hD : va_D _ [(a, .inl (g.2.1 2, 1, .inr (.inl f)))] := hD
  refine W.widen (k := 0) (n := 0) (by omega) (by omega) ?_
  refine lv_i2l (v := (nI 20).toInt64) hx hb dL_feed_14 rfl ?_
  refine va_last hx hb hK hP hD hS 0 2 rfl rfl (vp_in_nI (by decide) (by decide)) dL_feed_15 (fun H locs hP hD hS => ?_)
  have hP : va_P g.1 vcl [(a, .inl (g.2.1 2, 1, .inr (.inl (vp_updL f (nI 0).toNatClampNeg ((nI 20).toInt64)))))] _ := hP
  have hD : va_D _ [(a, .inl (g.2.1 2, 1, .inr (.inl (vp_updL f (nI 0).toNatClampNeg ((nI 20).toInt64)))))] := hD
  refine lv_goto (tgt := 23) hx hb dL_feed_16 (by decide) ?_
  refine lv_iconst (v := nI 0) hx hb dL_feed_23 (by decide) ?_
  exact mc_iret hx hb hr hlk hP hD hS (vp_updL f (nI 0).toNatClampNeg ((nI 20).toInt64)) ⟨rfl, if_pos (show (0 : Nat) = (nI 0).toNatClampNeg by decide)⟩ [0] rfl rfl (by omega) (by omega) dL_feed_24
set_option maxHeartbeats 400000 in
set_option maxRecDepth 100000 in
theorem lk_end (l : Launch) (g : Gd) (sz : Nat) (h0 : Nat) (u : Nat → Nat) (a : Nat) (f : Nat → Int64)  : Met l y_L_end w_L_end ({ frames := 5, cells := 0, slots := 0, locals := 180 } : Room) (va_Pc [.ref h0, .int (nI 0), .ref a] (pr (en g) g.1 vcl sz [(h0, .inr (0, [.ref (u 0), .int (nI 0), .ref (u 1), .int (nI 0), .ref (u 12), .int (nI 0), .ref (u 2), .ref (u 3), .ref (u 4), .ref (u 13), .ref (u 14)])), (a, .inl (g.2.1 2, 1, .inr (.inl f)))])) (va_Qi (fun (r : Int32) (u : Nat → Int64) => r = nI 0 ∧ u 0 = (nI 0).toInt64) (po g.1 vcl (va_A [(h0, .inr (0, [.ref (u 0), .int (nI 0), .ref (u 1), .int (nI 0), .ref (u 12), .int (nI 0), .ref (u 2), .ref (u 3), .ref (u 4), .ref (u 13), .ref (u 14)])), (a, .inl (g.2.1 2, 1, .inr (.inl f)))] sz) (fun (u : Nat → Int64) => [(a, .inl (g.2.1 2, 1, .inr (.inl u)))])) (va_A [(h0, .inr (0, [.ref (u 0), .int (nI 0), .ref (u 1), .int (nI 0), .ref (u 12), .int (nI 0), .ref (u 2), .ref (u 3), .ref (u 4), .ref (u 13), .ref (u 14)])), (a, .inl (g.2.1 2, 1, .inr (.inl f)))] sz)) 0 0 (va_A [(h0, .inr (0, [.ref (u 0), .int (nI 0), .ref (u 1), .int (nI 0), .ref (u 12), .int (nI 0), .ref (u 2), .ref (u 3), .ref (u 4), .ref (u 13), .ref (u 14)])), (a, .inl (g.2.1 2, 1, .inr (.inl f)))] sz) := by
  refine lc_entry (cc := c_L_end) (maxL := 4) (ret := (some .int)) (hh := [(0, 9, 12, 19)]) (by decide) rfl (Nat.le_of_ble_eq_true rfl) ?_
  intro p e s m args below meth c ls F hr hlk htab hsz hP hD hE hA hl
  obtain ⟨hx, hb, hml, hown, hts⟩ := id F
  have hK := hE.1
  generalize va_A [(h0, .inr (0, [.ref (u 0), .int (nI 0), .ref (u 1), .int (nI 0), .ref (u 12), .int (nI 0), .ref (u 2), .ref (u 3), .ref (u 4), .ref (u 13), .ref (u 14)])), (a, .inl (g.2.1 2, 1, .inr (.inl f)))] sz = A at hD hE hA ⊢
  have hS : va_S A s.heap s.heap [] := va_S.rf
  have hl : lv_has ls 4 [(0, .ref h0), (1, .int (nI 0)), (2, .ref a)] := hl
  refine lv_aload_n hx hb dL_end_0 rfl (lv_at hl 2 rfl) ?_
  refine lv_iconst (v := nI 0) hx hb dL_end_1 (by decide) ?_
  refine lv_aload_n hx hb dL_end_2 rfl (lv_at hl 0 rfl) ?_
  refine lv_iload_n hx hb dL_end_3 rfl (lv_at hl 1 rfl) ?_
  refine mc_i (wc := [(h0, .inr (0, [.ref (u 0), .int (nI 0), .ref (u 1), .int (nI 0), .ref (u 12), .int (nI 0), .ref (u 2), .ref (u 3), .ref (u 4), .ref (u 13), .ref (u 14)]))]) (wr := [(a, .inl (g.2.1 2, 1, .inr (.inl f)))]) hP hD hS hA [0] [1] rfl rfl rfl (by decide) (va_runV (As := [.int (nI 0)]) (rest := [.int (nI 0), .ref a]) F (m_K_end0 l g _ h0 u) (cwV 1 hts (wg_app (wg_c kw_497 (wg_c kw_498 (wg_c kw_499 (wg_c kw_1 wg_n)))) kw_500) rfl rfl rfl (by decide +kernel) ⟨by decide, by decide⟩) (pr_V (en_ok g) (q0 := 0) hK hP hD hS hA hE [0] rfl rfl rfl rfl) rfl rfl hl.1 rfl (lv_room (Nat.le_of_ble_eq_true rfl)) dL_end_4 ⟨(by decide), (by decide)⟩) (fun r1 u1 H locs hu1 hP hD hS => ?_)
  subst hu1
  have hP : va_P g.1 vcl [(a, .inl (g.2.1 2, 1, .inr (.inl f)))] _ := hP
  have hD : va_D _ [(a, .inl (g.2.1 2, 1, .inr (.inl f)))] := hD
  refine W.widen (k := 0) (n := 0) (by omega) (by omega) ?_
  refine lv_i2l (v := (nI 0).toInt64) hx hb dL_end_7 rfl ?_
  refine va_last hx hb hK hP hD hS 0 2 rfl rfl (vp_in_nI (by decide) (by decide)) dL_end_8 (fun H locs hP hD hS => ?_)
  have hP : va_P g.1 vcl [(a, .inl (g.2.1 2, 1, .inr (.inl (vp_updL f (nI 0).toNatClampNeg ((nI 0).toInt64)))))] _ := hP
  have hD : va_D _ [(a, .inl (g.2.1 2, 1, .inr (.inl (vp_updL f (nI 0).toNatClampNeg ((nI 0).toInt64)))))] := hD
  refine lv_goto (tgt := 15) hx hb dL_end_9 (by decide) ?_
  refine lv_iconst (v := nI 0) hx hb dL_end_15 (by decide) ?_
  exact mc_iret hx hb hr hlk hP hD hS (vp_updL f (nI 0).toNatClampNeg ((nI 0).toInt64)) ⟨rfl, if_pos (show (0 : Nat) = (nI 0).toNatClampNeg by decide)⟩ [0] rfl rfl (by omega) (by omega) dL_end_16
set_option maxHeartbeats 400000 in
set_option maxRecDepth 100000 in
theorem lk_again (l : Launch) (g : Gd) (sz : Nat) (h0 : Nat) (u : Nat → Nat) (a : Nat) (f : Nat → Int64)  : Met l y_L_again w_L_again ({ frames := 5, cells := 0, slots := 0, locals := 180 } : Room) (va_Pc [.ref h0, .ref a] (pr (en g) g.1 vcl sz [(h0, .inr (0, [.ref (u 0), .int (nI 0), .ref (u 1), .int (nI 0), .ref (u 12), .int (nI 0), .ref (u 2), .ref (u 3), .ref (u 4), .ref (u 13), .ref (u 14)])), (u 0, .inl (g.2.1 1, 16384, .inl ((fun _ => 0)))), (u 1, .inl (g.2.1 1, 8192, .inl ((fun _ => 0)))), (a, .inl (g.2.1 2, 1, .inr (.inl f)))])) (va_Qi (fun (r : Int32) (u : Nat → Int64) => r = nI 0 ∧ u 0 = (nI 0).toInt64) (po g.1 vcl (va_A [(h0, .inr (0, [.ref (u 0), .int (nI 0), .ref (u 1), .int (nI 0), .ref (u 12), .int (nI 0), .ref (u 2), .ref (u 3), .ref (u 4), .ref (u 13), .ref (u 14)])), (u 0, .inl (g.2.1 1, 16384, .inl ((fun _ => 0)))), (u 1, .inl (g.2.1 1, 8192, .inl ((fun _ => 0)))), (a, .inl (g.2.1 2, 1, .inr (.inl f)))] sz) (fun (u : Nat → Int64) => [(a, .inl (g.2.1 2, 1, .inr (.inl u)))])) (va_A [(h0, .inr (0, [.ref (u 0), .int (nI 0), .ref (u 1), .int (nI 0), .ref (u 12), .int (nI 0), .ref (u 2), .ref (u 3), .ref (u 4), .ref (u 13), .ref (u 14)])), (u 0, .inl (g.2.1 1, 16384, .inl ((fun _ => 0)))), (u 1, .inl (g.2.1 1, 8192, .inl ((fun _ => 0)))), (a, .inl (g.2.1 2, 1, .inr (.inl f)))] sz)) 0 0 (va_A [(h0, .inr (0, [.ref (u 0), .int (nI 0), .ref (u 1), .int (nI 0), .ref (u 12), .int (nI 0), .ref (u 2), .ref (u 3), .ref (u 4), .ref (u 13), .ref (u 14)])), (u 0, .inl (g.2.1 1, 16384, .inl ((fun _ => 0)))), (u 1, .inl (g.2.1 1, 8192, .inl ((fun _ => 0)))), (a, .inl (g.2.1 2, 1, .inr (.inl f)))] sz) := by
  refine lc_entry (cc := c_L_again) (maxL := 3) (ret := (some .int)) (hh := [(0, 8, 11, 13)]) (by decide) rfl (Nat.le_of_ble_eq_true rfl) ?_
  intro p e s m args below meth c ls F hr hlk htab hsz hP hD hE hA hl
  obtain ⟨hx, hb, hml, hown, hts⟩ := id F
  have hK := hE.1
  generalize va_A [(h0, .inr (0, [.ref (u 0), .int (nI 0), .ref (u 1), .int (nI 0), .ref (u 12), .int (nI 0), .ref (u 2), .ref (u 3), .ref (u 4), .ref (u 13), .ref (u 14)])), (u 0, .inl (g.2.1 1, 16384, .inl ((fun _ => 0)))), (u 1, .inl (g.2.1 1, 8192, .inl ((fun _ => 0)))), (a, .inl (g.2.1 2, 1, .inr (.inl f)))] sz = A at hD hE hA ⊢
  have hS : va_S A s.heap s.heap [] := va_S.rf
  have hl : lv_has ls 3 [(0, .ref h0), (1, .ref a)] := hl
  refine lv_aload_n hx hb dL_again_0 rfl (lv_at hl 1 rfl) ?_
  refine lv_iconst (v := nI 0) hx hb dL_again_1 (by decide) ?_
  refine lv_aload_n hx hb dL_again_2 rfl (lv_at hl 0 rfl) ?_
  refine mc_i (wc := [(h0, .inr (0, [.ref (u 0), .int (nI 0), .ref (u 1), .int (nI 0), .ref (u 12), .int (nI 0), .ref (u 2), .ref (u 3), .ref (u 4), .ref (u 13), .ref (u 14)])), (u 0, .inl (g.2.1 1, 16384, .inl ((fun _ => 0)))), (u 1, .inl (g.2.1 1, 8192, .inl ((fun _ => 0))))]) (wr := [(a, .inl (g.2.1 2, 1, .inr (.inl f)))]) hP hD hS hA [0, 1, 2] [3] rfl rfl rfl (by decide) (va_runV (As := []) (rest := [.int (nI 0), .ref a]) F (m_K_again l g _ h0 u) (cwV 0 hts (wg_app (wg_c kw_520 (wg_c kw_521 (wg_c kw_522 (wg_c kw_1 wg_n)))) kw_523) rfl rfl rfl (by decide +kernel) ⟨by decide, by decide⟩) (pr_V (en_ok g) (q0 := 0) hK hP hD hS hA hE [0, 1, 2] rfl rfl rfl rfl) rfl rfl hl.1 rfl (lv_room (Nat.le_of_ble_eq_true rfl)) dL_again_3 ⟨(by decide), (by decide)⟩) (fun r1 u1 H locs hu1 hP hD hS => ?_)
  subst hu1
  have hP : va_P g.1 vcl [(a, .inl (g.2.1 2, 1, .inr (.inl f)))] _ := hP
  have hD : va_D _ [(a, .inl (g.2.1 2, 1, .inr (.inl f)))] := hD
  refine W.widen (k := 0) (n := 0) (by omega) (by omega) ?_
  refine lv_i2l (v := (nI 0).toInt64) hx hb dL_again_6 rfl ?_
  refine va_last hx hb hK hP hD hS 0 2 rfl rfl (vp_in_nI (by decide) (by decide)) dL_again_7 (fun H locs hP hD hS => ?_)
  have hP : va_P g.1 vcl [(a, .inl (g.2.1 2, 1, .inr (.inl (vp_updL f (nI 0).toNatClampNeg ((nI 0).toInt64)))))] _ := hP
  have hD : va_D _ [(a, .inl (g.2.1 2, 1, .inr (.inl (vp_updL f (nI 0).toNatClampNeg ((nI 0).toInt64)))))] := hD
  refine lv_goto (tgt := 14) hx hb dL_again_8 (by decide) ?_
  refine lv_iconst (v := nI 0) hx hb dL_again_14 (by decide) ?_
  exact mc_iret hx hb hr hlk hP hD hS (vp_updL f (nI 0).toNatClampNeg ((nI 0).toInt64)) ⟨rfl, if_pos (show (0 : Nat) = (nI 0).toNatClampNeg by decide)⟩ [0] rfl rfl (by omega) (by omega) dL_again_15
set_option maxHeartbeats 400000 in
set_option maxRecDepth 100000 in
theorem lk_hash_0 (l : Launch) (g : Gd) (sz : Nat) (h0 : Nat) (u : Nat → Nat) (j : Nat) (a : Nat) (f : Nat → Int64) (hj : j ≤ 8192)  : Met l y_L_hash w_L_hash ({ frames := 5, cells := 0, slots := 0, locals := 180 } : Room) (va_Pc [.ref h0, .int (nI 0), .int (nI j), .ref a] (pr (en g) g.1 vcl sz [(h0, .inr (0, [.ref (u 0), .int (nI 0), .ref (u 1), .int (nI 0), .ref (u 12), .int (nI 0), .ref (u 2), .ref (u 3), .ref (u 4), .ref (u 13), .ref (u 14)])), (u 1, .inl (g.2.1 1, 8192, .inl ((fun _ => 0)))), (u 4, .inr (3, [.ref (u 5), .int (nI 136), .int (nI 6), .int (nI 0)])), (u 5, .inl (g.2.1 2, 25, .inr (.inl ((fun _ => 0))))), (a, .inl (g.2.1 2, 1, .inr (.inl f)))])) (va_Qi (fun (r : Int32) (u : Nat → Int64) => r = nI 0 ∧ u 0 = (nI 32).toInt64) (po g.1 vcl (va_A [(h0, .inr (0, [.ref (u 0), .int (nI 0), .ref (u 1), .int (nI 0), .ref (u 12), .int (nI 0), .ref (u 2), .ref (u 3), .ref (u 4), .ref (u 13), .ref (u 14)])), (u 1, .inl (g.2.1 1, 8192, .inl ((fun _ => 0)))), (u 4, .inr (3, [.ref (u 5), .int (nI 136), .int (nI 6), .int (nI 0)])), (u 5, .inl (g.2.1 2, 25, .inr (.inl ((fun _ => 0))))), (a, .inl (g.2.1 2, 1, .inr (.inl f)))] sz) (fun (u : Nat → Int64) => [(a, .inl (g.2.1 2, 1, .inr (.inl u)))])) (va_A [(h0, .inr (0, [.ref (u 0), .int (nI 0), .ref (u 1), .int (nI 0), .ref (u 12), .int (nI 0), .ref (u 2), .ref (u 3), .ref (u 4), .ref (u 13), .ref (u 14)])), (u 1, .inl (g.2.1 1, 8192, .inl ((fun _ => 0)))), (u 4, .inr (3, [.ref (u 5), .int (nI 136), .int (nI 6), .int (nI 0)])), (u 5, .inl (g.2.1 2, 25, .inr (.inl ((fun _ => 0))))), (a, .inl (g.2.1 2, 1, .inr (.inl f)))] sz)) 0 0 (va_A [(h0, .inr (0, [.ref (u 0), .int (nI 0), .ref (u 1), .int (nI 0), .ref (u 12), .int (nI 0), .ref (u 2), .ref (u 3), .ref (u 4), .ref (u 13), .ref (u 14)])), (u 1, .inl (g.2.1 1, 8192, .inl ((fun _ => 0)))), (u 4, .inr (3, [.ref (u 5), .int (nI 136), .int (nI 6), .int (nI 0)])), (u 5, .inl (g.2.1 2, 25, .inr (.inl ((fun _ => 0))))), (a, .inl (g.2.1 2, 1, .inr (.inl f)))] sz) := by
  refine lc_entry (cc := c_L_hash) (maxL := 5) (ret := (some .int)) (hh := [(0, 10, 13, 19)]) (by decide) rfl (Nat.le_of_ble_eq_true rfl) ?_
  intro p e s m args below meth c ls F hr hlk htab hsz hP hD hE hA hl
  obtain ⟨hx, hb, hml, hown, hts⟩ := id F
  have hK := hE.1
  generalize va_A [(h0, .inr (0, [.ref (u 0), .int (nI 0), .ref (u 1), .int (nI 0), .ref (u 12), .int (nI 0), .ref (u 2), .ref (u 3), .ref (u 4), .ref (u 13), .ref (u 14)])), (u 1, .inl (g.2.1 1, 8192, .inl ((fun _ => 0)))), (u 4, .inr (3, [.ref (u 5), .int (nI 136), .int (nI 6), .int (nI 0)])), (u 5, .inl (g.2.1 2, 25, .inr (.inl ((fun _ => 0))))), (a, .inl (g.2.1 2, 1, .inr (.inl f)))] sz = A at hD hE hA ⊢
  have hS : va_S A s.heap s.heap [] := va_S.rf
  have hl : lv_has ls 5 [(0, .ref h0), (1, .int (nI 0)), (2, .int (nI j)), (3, .ref a)] := hl
  refine lv_aload_n hx hb dL_hash_0 rfl (lv_at hl 3 rfl) ?_
  refine lv_iconst (v := nI 0) hx hb dL_hash_1 (by decide) ?_
  refine lv_aload_n hx hb dL_hash_2 rfl (lv_at hl 0 rfl) ?_
  refine lv_iload_n hx hb dL_hash_3 rfl (lv_at hl 1 rfl) ?_
  refine lv_iload_n hx hb dL_hash_4 rfl (lv_at hl 2 rfl) ?_
  refine mc_i (wc := [(h0, .inr (0, [.ref (u 0), .int (nI 0), .ref (u 1), .int (nI 0), .ref (u 12), .int (nI 0), .ref (u 2), .ref (u 3), .ref (u 4), .ref (u 13), .ref (u 14)])), (u 1, .inl (g.2.1 1, 8192, .inl ((fun _ => 0)))), (u 4, .inr (3, [.ref (u 5), .int (nI 136), .int (nI 6), .int (nI 0)])), (u 5, .inl (g.2.1 2, 25, .inr (.inl ((fun _ => 0)))))]) (wr := [(a, .inl (g.2.1 2, 1, .inr (.inl f)))]) hP hD hS hA [0, 1, 2, 3] [4] rfl rfl rfl (by decide) (va_runV (As := [.int (nI 0), .int (nI j)]) (rest := [.int (nI 0), .ref a]) F (m_K_hash_0 l g _ h0 u j hj) (cwV 2 hts (wg_app (wg_c kw_1294 (wg_c kw_1295 (wg_c kw_1296 (wg_c kw_1 wg_n)))) kw_1297) rfl rfl rfl (by decide +kernel) ⟨by decide, by decide⟩) (pr_V (en_ok g) (q0 := 0) hK hP hD hS hA hE [0, 1, 2, 3] rfl rfl rfl rfl) rfl rfl hl.1 rfl (lv_room (Nat.le_of_ble_eq_true rfl)) dL_hash_5 ⟨(by decide), (by decide)⟩) (fun r1 u1 H locs hu1 hP hD hS => ?_)
  subst hu1
  have hP : va_P g.1 vcl [(a, .inl (g.2.1 2, 1, .inr (.inl f)))] _ := hP
  have hD : va_D _ [(a, .inl (g.2.1 2, 1, .inr (.inl f)))] := hD
  refine W.widen (k := 0) (n := 0) (by omega) (by omega) ?_
  refine lv_i2l (v := (nI 32).toInt64) hx hb dL_hash_8 rfl ?_
  refine va_last hx hb hK hP hD hS 0 2 rfl rfl (vp_in_nI (by decide) (by decide)) dL_hash_9 (fun H locs hP hD hS => ?_)
  have hP : va_P g.1 vcl [(a, .inl (g.2.1 2, 1, .inr (.inl (vp_updL f (nI 0).toNatClampNeg ((nI 32).toInt64)))))] _ := hP
  have hD : va_D _ [(a, .inl (g.2.1 2, 1, .inr (.inl (vp_updL f (nI 0).toNatClampNeg ((nI 32).toInt64)))))] := hD
  refine lv_goto (tgt := 17) hx hb dL_hash_10 (by decide) ?_
  refine lv_iconst (v := nI 0) hx hb dL_hash_17 (by decide) ?_
  exact mc_iret hx hb hr hlk hP hD hS (vp_updL f (nI 0).toNatClampNeg ((nI 32).toInt64)) ⟨rfl, if_pos (show (0 : Nat) = (nI 0).toNatClampNeg by decide)⟩ [0] rfl rfl (by omega) (by omega) dL_hash_18
set_option maxHeartbeats 400000 in
set_option maxRecDepth 100000 in
theorem lk_hash_1 (l : Launch) (g : Gd) (sz : Nat) (h0 : Nat) (u : Nat → Nat) (j : Nat) (a : Nat) (f : Nat → Int64) (hj : j ≤ 8192)  : Met l y_L_hash w_L_hash ({ frames := 5, cells := 0, slots := 0, locals := 180 } : Room) (va_Pc [.ref h0, .int (nI 1), .int (nI j), .ref a] (pr (en g) g.1 vcl sz [(h0, .inr (0, [.ref (u 0), .int (nI 0), .ref (u 1), .int (nI 0), .ref (u 12), .int (nI 0), .ref (u 2), .ref (u 3), .ref (u 4), .ref (u 13), .ref (u 14)])), (u 1, .inl (g.2.1 1, 8192, .inl ((fun _ => 0)))), (u 4, .inr (3, [.ref (u 5), .int (nI 136), .int (nI 6), .int (nI 0)])), (u 5, .inl (g.2.1 2, 25, .inr (.inl ((fun _ => 0))))), (a, .inl (g.2.1 2, 1, .inr (.inl f)))])) (va_Qi (fun (r : Int32) (u : Nat → Int64) => r = nI 0 ∧ u 0 = (nI 64).toInt64) (po g.1 vcl (va_A [(h0, .inr (0, [.ref (u 0), .int (nI 0), .ref (u 1), .int (nI 0), .ref (u 12), .int (nI 0), .ref (u 2), .ref (u 3), .ref (u 4), .ref (u 13), .ref (u 14)])), (u 1, .inl (g.2.1 1, 8192, .inl ((fun _ => 0)))), (u 4, .inr (3, [.ref (u 5), .int (nI 136), .int (nI 6), .int (nI 0)])), (u 5, .inl (g.2.1 2, 25, .inr (.inl ((fun _ => 0))))), (a, .inl (g.2.1 2, 1, .inr (.inl f)))] sz) (fun (u : Nat → Int64) => [(a, .inl (g.2.1 2, 1, .inr (.inl u)))])) (va_A [(h0, .inr (0, [.ref (u 0), .int (nI 0), .ref (u 1), .int (nI 0), .ref (u 12), .int (nI 0), .ref (u 2), .ref (u 3), .ref (u 4), .ref (u 13), .ref (u 14)])), (u 1, .inl (g.2.1 1, 8192, .inl ((fun _ => 0)))), (u 4, .inr (3, [.ref (u 5), .int (nI 136), .int (nI 6), .int (nI 0)])), (u 5, .inl (g.2.1 2, 25, .inr (.inl ((fun _ => 0))))), (a, .inl (g.2.1 2, 1, .inr (.inl f)))] sz)) 0 0 (va_A [(h0, .inr (0, [.ref (u 0), .int (nI 0), .ref (u 1), .int (nI 0), .ref (u 12), .int (nI 0), .ref (u 2), .ref (u 3), .ref (u 4), .ref (u 13), .ref (u 14)])), (u 1, .inl (g.2.1 1, 8192, .inl ((fun _ => 0)))), (u 4, .inr (3, [.ref (u 5), .int (nI 136), .int (nI 6), .int (nI 0)])), (u 5, .inl (g.2.1 2, 25, .inr (.inl ((fun _ => 0))))), (a, .inl (g.2.1 2, 1, .inr (.inl f)))] sz) := by
  refine lc_entry (cc := c_L_hash) (maxL := 5) (ret := (some .int)) (hh := [(0, 10, 13, 19)]) (by decide) rfl (Nat.le_of_ble_eq_true rfl) ?_
  intro p e s m args below meth c ls F hr hlk htab hsz hP hD hE hA hl
  obtain ⟨hx, hb, hml, hown, hts⟩ := id F
  have hK := hE.1
  generalize va_A [(h0, .inr (0, [.ref (u 0), .int (nI 0), .ref (u 1), .int (nI 0), .ref (u 12), .int (nI 0), .ref (u 2), .ref (u 3), .ref (u 4), .ref (u 13), .ref (u 14)])), (u 1, .inl (g.2.1 1, 8192, .inl ((fun _ => 0)))), (u 4, .inr (3, [.ref (u 5), .int (nI 136), .int (nI 6), .int (nI 0)])), (u 5, .inl (g.2.1 2, 25, .inr (.inl ((fun _ => 0))))), (a, .inl (g.2.1 2, 1, .inr (.inl f)))] sz = A at hD hE hA ⊢
  have hS : va_S A s.heap s.heap [] := va_S.rf
  have hl : lv_has ls 5 [(0, .ref h0), (1, .int (nI 1)), (2, .int (nI j)), (3, .ref a)] := hl
  refine lv_aload_n hx hb dL_hash_0 rfl (lv_at hl 3 rfl) ?_
  refine lv_iconst (v := nI 0) hx hb dL_hash_1 (by decide) ?_
  refine lv_aload_n hx hb dL_hash_2 rfl (lv_at hl 0 rfl) ?_
  refine lv_iload_n hx hb dL_hash_3 rfl (lv_at hl 1 rfl) ?_
  refine lv_iload_n hx hb dL_hash_4 rfl (lv_at hl 2 rfl) ?_
  refine mc_i (wc := [(h0, .inr (0, [.ref (u 0), .int (nI 0), .ref (u 1), .int (nI 0), .ref (u 12), .int (nI 0), .ref (u 2), .ref (u 3), .ref (u 4), .ref (u 13), .ref (u 14)])), (u 1, .inl (g.2.1 1, 8192, .inl ((fun _ => 0)))), (u 4, .inr (3, [.ref (u 5), .int (nI 136), .int (nI 6), .int (nI 0)])), (u 5, .inl (g.2.1 2, 25, .inr (.inl ((fun _ => 0)))))]) (wr := [(a, .inl (g.2.1 2, 1, .inr (.inl f)))]) hP hD hS hA [0, 1, 2, 3] [4] rfl rfl rfl (by decide) (va_runV (As := [.int (nI 1), .int (nI j)]) (rest := [.int (nI 0), .ref a]) F (m_K_hash_1 l g _ h0 u j hj) (cwV 2 hts (wg_app (wg_c kw_1294 (wg_c kw_1295 (wg_c kw_1296 (wg_c kw_1 wg_n)))) kw_1297) rfl rfl rfl (by decide +kernel) ⟨by decide, by decide⟩) (pr_V (en_ok g) (q0 := 0) hK hP hD hS hA hE [0, 1, 2, 3] rfl rfl rfl rfl) rfl rfl hl.1 rfl (lv_room (Nat.le_of_ble_eq_true rfl)) dL_hash_5 ⟨(by decide), (by decide)⟩) (fun r1 u1 H locs hu1 hP hD hS => ?_)
  subst hu1
  have hP : va_P g.1 vcl [(a, .inl (g.2.1 2, 1, .inr (.inl f)))] _ := hP
  have hD : va_D _ [(a, .inl (g.2.1 2, 1, .inr (.inl f)))] := hD
  refine W.widen (k := 0) (n := 0) (by omega) (by omega) ?_
  refine lv_i2l (v := (nI 64).toInt64) hx hb dL_hash_8 rfl ?_
  refine va_last hx hb hK hP hD hS 0 2 rfl rfl (vp_in_nI (by decide) (by decide)) dL_hash_9 (fun H locs hP hD hS => ?_)
  have hP : va_P g.1 vcl [(a, .inl (g.2.1 2, 1, .inr (.inl (vp_updL f (nI 0).toNatClampNeg ((nI 64).toInt64)))))] _ := hP
  have hD : va_D _ [(a, .inl (g.2.1 2, 1, .inr (.inl (vp_updL f (nI 0).toNatClampNeg ((nI 64).toInt64)))))] := hD
  refine lv_goto (tgt := 17) hx hb dL_hash_10 (by decide) ?_
  refine lv_iconst (v := nI 0) hx hb dL_hash_17 (by decide) ?_
  exact mc_iret hx hb hr hlk hP hD hS (vp_updL f (nI 0).toNatClampNeg ((nI 64).toInt64)) ⟨rfl, if_pos (show (0 : Nat) = (nI 0).toNatClampNeg by decide)⟩ [0] rfl rfl (by omega) (by omega) dL_hash_18
set_option maxHeartbeats 400000 in
set_option maxRecDepth 100000 in
theorem lk_hash_2 (l : Launch) (g : Gd) (sz : Nat) (h0 : Nat) (u : Nat → Nat) (j : Nat) (a : Nat) (f : Nat → Int64) (hj : j ≤ 8192)  : Met l y_L_hash w_L_hash ({ frames := 5, cells := 0, slots := 0, locals := 180 } : Room) (va_Pc [.ref h0, .int (nI 2), .int (nI j), .ref a] (pr (en g) g.1 vcl sz [(h0, .inr (0, [.ref (u 0), .int (nI 0), .ref (u 1), .int (nI 0), .ref (u 12), .int (nI 0), .ref (u 2), .ref (u 3), .ref (u 4), .ref (u 13), .ref (u 14)])), (u 1, .inl (g.2.1 1, 8192, .inl ((fun _ => 0)))), (u 4, .inr (3, [.ref (u 5), .int (nI 136), .int (nI 6), .int (nI 0)])), (u 5, .inl (g.2.1 2, 25, .inr (.inl ((fun _ => 0))))), (a, .inl (g.2.1 2, 1, .inr (.inl f)))])) (va_Qi (fun (r : Int32) (u : Nat → Int64) => r = nI 0 ∧ u 0 = (nI j).toInt64) (po g.1 vcl (va_A [(h0, .inr (0, [.ref (u 0), .int (nI 0), .ref (u 1), .int (nI 0), .ref (u 12), .int (nI 0), .ref (u 2), .ref (u 3), .ref (u 4), .ref (u 13), .ref (u 14)])), (u 1, .inl (g.2.1 1, 8192, .inl ((fun _ => 0)))), (u 4, .inr (3, [.ref (u 5), .int (nI 136), .int (nI 6), .int (nI 0)])), (u 5, .inl (g.2.1 2, 25, .inr (.inl ((fun _ => 0))))), (a, .inl (g.2.1 2, 1, .inr (.inl f)))] sz) (fun (u : Nat → Int64) => [(a, .inl (g.2.1 2, 1, .inr (.inl u)))])) (va_A [(h0, .inr (0, [.ref (u 0), .int (nI 0), .ref (u 1), .int (nI 0), .ref (u 12), .int (nI 0), .ref (u 2), .ref (u 3), .ref (u 4), .ref (u 13), .ref (u 14)])), (u 1, .inl (g.2.1 1, 8192, .inl ((fun _ => 0)))), (u 4, .inr (3, [.ref (u 5), .int (nI 136), .int (nI 6), .int (nI 0)])), (u 5, .inl (g.2.1 2, 25, .inr (.inl ((fun _ => 0))))), (a, .inl (g.2.1 2, 1, .inr (.inl f)))] sz)) 0 0 (va_A [(h0, .inr (0, [.ref (u 0), .int (nI 0), .ref (u 1), .int (nI 0), .ref (u 12), .int (nI 0), .ref (u 2), .ref (u 3), .ref (u 4), .ref (u 13), .ref (u 14)])), (u 1, .inl (g.2.1 1, 8192, .inl ((fun _ => 0)))), (u 4, .inr (3, [.ref (u 5), .int (nI 136), .int (nI 6), .int (nI 0)])), (u 5, .inl (g.2.1 2, 25, .inr (.inl ((fun _ => 0))))), (a, .inl (g.2.1 2, 1, .inr (.inl f)))] sz) := by
  refine lc_entry (cc := c_L_hash) (maxL := 5) (ret := (some .int)) (hh := [(0, 10, 13, 19)]) (by decide) rfl (Nat.le_of_ble_eq_true rfl) ?_
  intro p e s m args below meth c ls F hr hlk htab hsz hP hD hE hA hl
  obtain ⟨hx, hb, hml, hown, hts⟩ := id F
  have hK := hE.1
  generalize va_A [(h0, .inr (0, [.ref (u 0), .int (nI 0), .ref (u 1), .int (nI 0), .ref (u 12), .int (nI 0), .ref (u 2), .ref (u 3), .ref (u 4), .ref (u 13), .ref (u 14)])), (u 1, .inl (g.2.1 1, 8192, .inl ((fun _ => 0)))), (u 4, .inr (3, [.ref (u 5), .int (nI 136), .int (nI 6), .int (nI 0)])), (u 5, .inl (g.2.1 2, 25, .inr (.inl ((fun _ => 0))))), (a, .inl (g.2.1 2, 1, .inr (.inl f)))] sz = A at hD hE hA ⊢
  have hS : va_S A s.heap s.heap [] := va_S.rf
  have hl : lv_has ls 5 [(0, .ref h0), (1, .int (nI 2)), (2, .int (nI j)), (3, .ref a)] := hl
  refine lv_aload_n hx hb dL_hash_0 rfl (lv_at hl 3 rfl) ?_
  refine lv_iconst (v := nI 0) hx hb dL_hash_1 (by decide) ?_
  refine lv_aload_n hx hb dL_hash_2 rfl (lv_at hl 0 rfl) ?_
  refine lv_iload_n hx hb dL_hash_3 rfl (lv_at hl 1 rfl) ?_
  refine lv_iload_n hx hb dL_hash_4 rfl (lv_at hl 2 rfl) ?_
  refine mc_i (wc := [(h0, .inr (0, [.ref (u 0), .int (nI 0), .ref (u 1), .int (nI 0), .ref (u 12), .int (nI 0), .ref (u 2), .ref (u 3), .ref (u 4), .ref (u 13), .ref (u 14)])), (u 1, .inl (g.2.1 1, 8192, .inl ((fun _ => 0)))), (u 4, .inr (3, [.ref (u 5), .int (nI 136), .int (nI 6), .int (nI 0)])), (u 5, .inl (g.2.1 2, 25, .inr (.inl ((fun _ => 0)))))]) (wr := [(a, .inl (g.2.1 2, 1, .inr (.inl f)))]) hP hD hS hA [0, 1, 2, 3] [4] rfl rfl rfl (by decide) (va_runV (As := [.int (nI 2), .int (nI j)]) (rest := [.int (nI 0), .ref a]) F (m_K_hash_2 l g _ h0 u j hj) (cwV 2 hts (wg_app (wg_c kw_1294 (wg_c kw_1295 (wg_c kw_1296 (wg_c kw_1 wg_n)))) kw_1297) rfl rfl rfl (by decide +kernel) ⟨by decide, by decide⟩) (pr_V (en_ok g) (q0 := 0) hK hP hD hS hA hE [0, 1, 2, 3] rfl rfl rfl rfl) rfl rfl hl.1 rfl (lv_room (Nat.le_of_ble_eq_true rfl)) dL_hash_5 ⟨(by decide), (by decide)⟩) (fun r1 u1 H locs hu1 hP hD hS => ?_)
  subst hu1
  have hP : va_P g.1 vcl [(a, .inl (g.2.1 2, 1, .inr (.inl f)))] _ := hP
  have hD : va_D _ [(a, .inl (g.2.1 2, 1, .inr (.inl f)))] := hD
  refine W.widen (k := 0) (n := 0) (by omega) (by omega) ?_
  refine lv_i2l (v := (nI j).toInt64) hx hb dL_hash_8 rfl ?_
  refine va_last hx hb hK hP hD hS 0 2 rfl rfl (vp_in_nI (by decide) (by decide)) dL_hash_9 (fun H locs hP hD hS => ?_)
  have hP : va_P g.1 vcl [(a, .inl (g.2.1 2, 1, .inr (.inl (vp_updL f (nI 0).toNatClampNeg ((nI j).toInt64)))))] _ := hP
  have hD : va_D _ [(a, .inl (g.2.1 2, 1, .inr (.inl (vp_updL f (nI 0).toNatClampNeg ((nI j).toInt64)))))] := hD
  refine lv_goto (tgt := 17) hx hb dL_hash_10 (by decide) ?_
  refine lv_iconst (v := nI 0) hx hb dL_hash_17 (by decide) ?_
  exact mc_iret hx hb hr hlk hP hD hS (vp_updL f (nI 0).toNatClampNeg ((nI j).toInt64)) ⟨rfl, if_pos (show (0 : Nat) = (nI 0).toNatClampNeg by decide)⟩ [0] rfl rfl (by omega) (by omega) dL_hash_18
set_option maxHeartbeats 400000 in
set_option maxRecDepth 100000 in
theorem lk_hash_3 (l : Launch) (g : Gd) (sz : Nat) (h0 : Nat) (u : Nat → Nat) (j : Nat) (a : Nat) (f : Nat → Int64) (hj : j ≤ 8192)  : Met l y_L_hash w_L_hash ({ frames := 5, cells := 0, slots := 0, locals := 180 } : Room) (va_Pc [.ref h0, .int (nI 3), .int (nI j), .ref a] (pr (en g) g.1 vcl sz [(h0, .inr (0, [.ref (u 0), .int (nI 0), .ref (u 1), .int (nI 0), .ref (u 12), .int (nI 0), .ref (u 2), .ref (u 3), .ref (u 4), .ref (u 13), .ref (u 14)])), (u 1, .inl (g.2.1 1, 8192, .inl ((fun _ => 0)))), (u 4, .inr (3, [.ref (u 5), .int (nI 136), .int (nI 6), .int (nI 0)])), (u 5, .inl (g.2.1 2, 25, .inr (.inl ((fun _ => 0))))), (a, .inl (g.2.1 2, 1, .inr (.inl f)))])) (va_Qi (fun (r : Int32) (u : Nat → Int64) => r = nI 0 ∧ u 0 = (nI j).toInt64) (po g.1 vcl (va_A [(h0, .inr (0, [.ref (u 0), .int (nI 0), .ref (u 1), .int (nI 0), .ref (u 12), .int (nI 0), .ref (u 2), .ref (u 3), .ref (u 4), .ref (u 13), .ref (u 14)])), (u 1, .inl (g.2.1 1, 8192, .inl ((fun _ => 0)))), (u 4, .inr (3, [.ref (u 5), .int (nI 136), .int (nI 6), .int (nI 0)])), (u 5, .inl (g.2.1 2, 25, .inr (.inl ((fun _ => 0))))), (a, .inl (g.2.1 2, 1, .inr (.inl f)))] sz) (fun (u : Nat → Int64) => [(a, .inl (g.2.1 2, 1, .inr (.inl u)))])) (va_A [(h0, .inr (0, [.ref (u 0), .int (nI 0), .ref (u 1), .int (nI 0), .ref (u 12), .int (nI 0), .ref (u 2), .ref (u 3), .ref (u 4), .ref (u 13), .ref (u 14)])), (u 1, .inl (g.2.1 1, 8192, .inl ((fun _ => 0)))), (u 4, .inr (3, [.ref (u 5), .int (nI 136), .int (nI 6), .int (nI 0)])), (u 5, .inl (g.2.1 2, 25, .inr (.inl ((fun _ => 0))))), (a, .inl (g.2.1 2, 1, .inr (.inl f)))] sz)) 0 0 (va_A [(h0, .inr (0, [.ref (u 0), .int (nI 0), .ref (u 1), .int (nI 0), .ref (u 12), .int (nI 0), .ref (u 2), .ref (u 3), .ref (u 4), .ref (u 13), .ref (u 14)])), (u 1, .inl (g.2.1 1, 8192, .inl ((fun _ => 0)))), (u 4, .inr (3, [.ref (u 5), .int (nI 136), .int (nI 6), .int (nI 0)])), (u 5, .inl (g.2.1 2, 25, .inr (.inl ((fun _ => 0))))), (a, .inl (g.2.1 2, 1, .inr (.inl f)))] sz) := by
  refine lc_entry (cc := c_L_hash) (maxL := 5) (ret := (some .int)) (hh := [(0, 10, 13, 19)]) (by decide) rfl (Nat.le_of_ble_eq_true rfl) ?_
  intro p e s m args below meth c ls F hr hlk htab hsz hP hD hE hA hl
  obtain ⟨hx, hb, hml, hown, hts⟩ := id F
  have hK := hE.1
  generalize va_A [(h0, .inr (0, [.ref (u 0), .int (nI 0), .ref (u 1), .int (nI 0), .ref (u 12), .int (nI 0), .ref (u 2), .ref (u 3), .ref (u 4), .ref (u 13), .ref (u 14)])), (u 1, .inl (g.2.1 1, 8192, .inl ((fun _ => 0)))), (u 4, .inr (3, [.ref (u 5), .int (nI 136), .int (nI 6), .int (nI 0)])), (u 5, .inl (g.2.1 2, 25, .inr (.inl ((fun _ => 0))))), (a, .inl (g.2.1 2, 1, .inr (.inl f)))] sz = A at hD hE hA ⊢
  have hS : va_S A s.heap s.heap [] := va_S.rf
  have hl : lv_has ls 5 [(0, .ref h0), (1, .int (nI 3)), (2, .int (nI j)), (3, .ref a)] := hl
  refine lv_aload_n hx hb dL_hash_0 rfl (lv_at hl 3 rfl) ?_
  refine lv_iconst (v := nI 0) hx hb dL_hash_1 (by decide) ?_
  refine lv_aload_n hx hb dL_hash_2 rfl (lv_at hl 0 rfl) ?_
  refine lv_iload_n hx hb dL_hash_3 rfl (lv_at hl 1 rfl) ?_
  refine lv_iload_n hx hb dL_hash_4 rfl (lv_at hl 2 rfl) ?_
  refine mc_i (wc := [(h0, .inr (0, [.ref (u 0), .int (nI 0), .ref (u 1), .int (nI 0), .ref (u 12), .int (nI 0), .ref (u 2), .ref (u 3), .ref (u 4), .ref (u 13), .ref (u 14)])), (u 1, .inl (g.2.1 1, 8192, .inl ((fun _ => 0)))), (u 4, .inr (3, [.ref (u 5), .int (nI 136), .int (nI 6), .int (nI 0)])), (u 5, .inl (g.2.1 2, 25, .inr (.inl ((fun _ => 0)))))]) (wr := [(a, .inl (g.2.1 2, 1, .inr (.inl f)))]) hP hD hS hA [0, 1, 2, 3] [4] rfl rfl rfl (by decide) (va_runV (As := [.int (nI 3), .int (nI j)]) (rest := [.int (nI 0), .ref a]) F (m_K_hash_3 l g _ h0 u j hj) (cwV 2 hts (wg_app (wg_c kw_1294 (wg_c kw_1295 (wg_c kw_1296 (wg_c kw_1 wg_n)))) kw_1297) rfl rfl rfl (by decide +kernel) ⟨by decide, by decide⟩) (pr_V (en_ok g) (q0 := 0) hK hP hD hS hA hE [0, 1, 2, 3] rfl rfl rfl rfl) rfl rfl hl.1 rfl (lv_room (Nat.le_of_ble_eq_true rfl)) dL_hash_5 ⟨(by decide), (by decide)⟩) (fun r1 u1 H locs hu1 hP hD hS => ?_)
  subst hu1
  have hP : va_P g.1 vcl [(a, .inl (g.2.1 2, 1, .inr (.inl f)))] _ := hP
  have hD : va_D _ [(a, .inl (g.2.1 2, 1, .inr (.inl f)))] := hD
  refine W.widen (k := 0) (n := 0) (by omega) (by omega) ?_
  refine lv_i2l (v := (nI j).toInt64) hx hb dL_hash_8 rfl ?_
  refine va_last hx hb hK hP hD hS 0 2 rfl rfl (vp_in_nI (by decide) (by decide)) dL_hash_9 (fun H locs hP hD hS => ?_)
  have hP : va_P g.1 vcl [(a, .inl (g.2.1 2, 1, .inr (.inl (vp_updL f (nI 0).toNatClampNeg ((nI j).toInt64)))))] _ := hP
  have hD : va_D _ [(a, .inl (g.2.1 2, 1, .inr (.inl (vp_updL f (nI 0).toNatClampNeg ((nI j).toInt64)))))] := hD
  refine lv_goto (tgt := 17) hx hb dL_hash_10 (by decide) ?_
  refine lv_iconst (v := nI 0) hx hb dL_hash_17 (by decide) ?_
  exact mc_iret hx hb hr hlk hP hD hS (vp_updL f (nI 0).toNatClampNeg ((nI j).toInt64)) ⟨rfl, if_pos (show (0 : Nat) = (nI 0).toNatClampNeg by decide)⟩ [0] rfl rfl (by omega) (by omega) dL_hash_18
set_option maxHeartbeats 400000 in
set_option maxRecDepth 100000 in
theorem lx_end (l : Launch) (htr : l.stackTraces = false) (g : Gd) (sz : Nat) (h0 : Nat) (u : Nat → Nat) (v : Int32) (a : Nat) (f : Nat → Int64) (hv : ¬ v = 0)  : Met l y_L_end w_L_end ({ frames := 7, cells := 1, slots := 6, locals := 190 } : Room) (va_Pc [.ref h0, .int v, .ref a] (pr (ex g) g.1 vcl sz [(h0, .inr (0, [.ref (u 0), .int (nI 0), .ref (u 1), .int (nI 0), .ref (u 12), .int (nI 0), .ref (u 2), .ref (u 3), .ref (u 4), .ref (u 13), .ref (u 14)])), (a, .inl (g.2.1 2, 1, .inr (.inl f)))])) (va_Qi (fun (r : Int32) (u : Unit) => r = nI 1) (po g.1 vcl (va_A [(h0, .inr (0, [.ref (u 0), .int (nI 0), .ref (u 1), .int (nI 0), .ref (u 12), .int (nI 0), .ref (u 2), .ref (u 3), .ref (u 4), .ref (u 13), .ref (u 14)])), (a, .inl (g.2.1 2, 1, .inr (.inl f)))] sz) (fun (u : Unit) => [(a, .inl (g.2.1 2, 1, .inr (.inl f)))])) (va_A [(h0, .inr (0, [.ref (u 0), .int (nI 0), .ref (u 1), .int (nI 0), .ref (u 12), .int (nI 0), .ref (u 2), .ref (u 3), .ref (u 4), .ref (u 13), .ref (u 14)])), (a, .inl (g.2.1 2, 1, .inr (.inl f)))] sz)) 1 6 (va_A [(h0, .inr (0, [.ref (u 0), .int (nI 0), .ref (u 1), .int (nI 0), .ref (u 12), .int (nI 0), .ref (u 2), .ref (u 3), .ref (u 4), .ref (u 13), .ref (u 14)])), (a, .inl (g.2.1 2, 1, .inr (.inl f)))] sz) := by
  refine lc_entry (cc := c_L_end) (maxL := 4) (ret := (some .int)) (hh := [(0, 9, 12, 19)]) (by decide) rfl (Nat.le_of_ble_eq_true rfl) ?_
  intro p e s m args below meth c ls F hr hlk htab hsz hP hD hX hA hl
  obtain ⟨hx, hb, hml, hown, hts⟩ := id F
  have hE := hX.1
  have hK := hE.1
  generalize va_A [(h0, .inr (0, [.ref (u 0), .int (nI 0), .ref (u 1), .int (nI 0), .ref (u 12), .int (nI 0), .ref (u 2), .ref (u 3), .ref (u 4), .ref (u 13), .ref (u 14)])), (a, .inl (g.2.1 2, 1, .inr (.inl f)))] sz = A at hD hX hE hA ⊢
  have hS : va_S A s.heap s.heap [] := va_S.rf
  have hl : lv_has ls 4 [(0, .ref h0), (1, .int v), (2, .ref a)] := hl
  refine lv_aload_n hx hb dL_end_0 rfl (lv_at hl 2 rfl) ?_
  refine lv_iconst (v := nI 0) hx hb dL_end_1 (by decide) ?_
  refine lv_aload_n hx hb dL_end_2 rfl (lv_at hl 0 rfl) ?_
  refine lv_iload_n hx hb dL_end_3 rfl (lv_at hl 1 rfl) ?_
  obtain ⟨x9, suf9, hsp, hx1, hx2, hx3, hx4⟩ := lc_tab htab
  refine xt_call (E := ex g) (C := "LatticeKeys") (own := "LatticeKeysLaw") (ex := "java/lang/IllegalArgumentException") (name := "java/lang/IllegalArgumentException") (As := [.int v]) (rest := [.int (nI 0), .ref a]) F (x_K_end l htr g _ h0 u v hv) (cwV 1 hts (wg_app (wg_c kw_497 (wg_c kw_498 (wg_c kw_499 (wg_c kw_1 wg_n)))) kw_500) rfl rfl rfl (by decide +kernel) ⟨by decide, by decide⟩) (pr_V (ex_ok g) (q0 := 0) hK hP hD hS hA hX [0] rfl rfl rfl rfl) rfl hl.1 rfl (Nat.le_of_ble_eq_true rfl) dL_end_4 ⟨by decide, by decide⟩ [] x9 suf9 hsp (fun z h => nomatch h) (by simp [covers, hx1, hx2]) (by rw [hx4]; decide) (by rw [hx4]; exact hts _ (wg_t kw_496)) (va_Nw.use rfl hX.2.2.2.2.1.1) (fun q9 H hz9 hk9 => ?_)
  rw [hx3]
  replace hS := lc_S hS hz9 hk9
  replace hP := lc_P hP hk9
  refine W.widen (k := 1) (n := 6) (by decide) (by decide) ?_
  refine lv_astore_n (lv' := [(3, .ref q9), (0, .ref h0), (1, .int v), (2, .ref a)]) hx hb dL_end_12 rfl hl (by decide) rfl (fun ls hl => ?_)
  refine lv_iconst (v := nI 1) hx hb dL_end_13 (by decide) ?_
  exact mc_iret hx hb hr hlk hP hD hS () rfl [1] rfl rfl (by omega) (by omega) dL_end_14
set_option maxHeartbeats 400000 in
set_option maxRecDepth 100000 in
theorem lx_hash (l : Launch) (htr : l.stackTraces = false) (g : Gd) (sz : Nat) (h0 : Nat) (u : Nat → Nat) (v n : Int32) (a : Nat) (f : Nat → Int64) (hbad : v < 0 ∨ nI 3 < v ∨ n < 0 ∨ nI 8192 < n)  : Met l y_L_hash w_L_hash ({ frames := 7, cells := 1, slots := 6, locals := 190 } : Room) (va_Pc [.ref h0, .int v, .int n, .ref a] (pr (ex g) g.1 vcl sz [(h0, .inr (0, [.ref (u 0), .int (nI 0), .ref (u 1), .int (nI 0), .ref (u 12), .int (nI 0), .ref (u 2), .ref (u 3), .ref (u 4), .ref (u 13), .ref (u 14)])), (a, .inl (g.2.1 2, 1, .inr (.inl f)))])) (va_Qi (fun (r : Int32) (u : Unit) => r = nI 1) (po g.1 vcl (va_A [(h0, .inr (0, [.ref (u 0), .int (nI 0), .ref (u 1), .int (nI 0), .ref (u 12), .int (nI 0), .ref (u 2), .ref (u 3), .ref (u 4), .ref (u 13), .ref (u 14)])), (a, .inl (g.2.1 2, 1, .inr (.inl f)))] sz) (fun (u : Unit) => [(a, .inl (g.2.1 2, 1, .inr (.inl f)))])) (va_A [(h0, .inr (0, [.ref (u 0), .int (nI 0), .ref (u 1), .int (nI 0), .ref (u 12), .int (nI 0), .ref (u 2), .ref (u 3), .ref (u 4), .ref (u 13), .ref (u 14)])), (a, .inl (g.2.1 2, 1, .inr (.inl f)))] sz)) 1 6 (va_A [(h0, .inr (0, [.ref (u 0), .int (nI 0), .ref (u 1), .int (nI 0), .ref (u 12), .int (nI 0), .ref (u 2), .ref (u 3), .ref (u 4), .ref (u 13), .ref (u 14)])), (a, .inl (g.2.1 2, 1, .inr (.inl f)))] sz) := by
  refine lc_entry (cc := c_L_hash) (maxL := 5) (ret := (some .int)) (hh := [(0, 10, 13, 19)]) (by decide) rfl (Nat.le_of_ble_eq_true rfl) ?_
  intro p e s m args below meth c ls F hr hlk htab hsz hP hD hX hA hl
  obtain ⟨hx, hb, hml, hown, hts⟩ := id F
  have hE := hX.1
  have hK := hE.1
  generalize va_A [(h0, .inr (0, [.ref (u 0), .int (nI 0), .ref (u 1), .int (nI 0), .ref (u 12), .int (nI 0), .ref (u 2), .ref (u 3), .ref (u 4), .ref (u 13), .ref (u 14)])), (a, .inl (g.2.1 2, 1, .inr (.inl f)))] sz = A at hD hX hE hA ⊢
  have hS : va_S A s.heap s.heap [] := va_S.rf
  have hl : lv_has ls 5 [(0, .ref h0), (1, .int v), (2, .int n), (3, .ref a)] := hl
  refine lv_aload_n hx hb dL_hash_0 rfl (lv_at hl 3 rfl) ?_
  refine lv_iconst (v := nI 0) hx hb dL_hash_1 (by decide) ?_
  refine lv_aload_n hx hb dL_hash_2 rfl (lv_at hl 0 rfl) ?_
  refine lv_iload_n hx hb dL_hash_3 rfl (lv_at hl 1 rfl) ?_
  refine lv_iload_n hx hb dL_hash_4 rfl (lv_at hl 2 rfl) ?_
  obtain ⟨x9, suf9, hsp, hx1, hx2, hx3, hx4⟩ := lc_tab htab
  refine xt_call (E := ex g) (C := "LatticeKeys") (own := "LatticeKeysLaw") (ex := "java/lang/IllegalArgumentException") (name := "java/lang/IllegalArgumentException") (As := [.int v, .int n]) (rest := [.int (nI 0), .ref a]) F (x_K_hash l htr g _ h0 u v n hbad) (cwV 2 hts (wg_app (wg_c kw_1294 (wg_c kw_1295 (wg_c kw_1296 (wg_c kw_1 wg_n)))) kw_1297) rfl rfl rfl (by decide +kernel) ⟨by decide, by decide⟩) (pr_V (ex_ok g) (q0 := 0) hK hP hD hS hA hX [0] rfl rfl rfl rfl) rfl hl.1 rfl (Nat.le_of_ble_eq_true rfl) dL_hash_5 ⟨by decide, by decide⟩ [] x9 suf9 hsp (fun z h => nomatch h) (by simp [covers, hx1, hx2]) (by rw [hx4]; decide) (by rw [hx4]; exact hts _ (wg_t kw_496)) (va_Nw.use rfl hX.2.2.2.2.1.1) (fun q9 H hz9 hk9 => ?_)
  rw [hx3]
  replace hS := lc_S hS hz9 hk9
  replace hP := lc_P hP hk9
  refine W.widen (k := 1) (n := 6) (by decide) (by decide) ?_
  refine lv_astore (lv' := [(4, .ref q9), (0, .ref h0), (1, .int v), (2, .int n), (3, .ref a)]) hx hb dL_hash_13 hl (by decide) rfl (fun ls hl => ?_)
  refine lv_iconst (v := nI 1) hx hb dL_hash_15 (by decide) ?_
  exact mc_iret hx hb hr hlk hP hD hS () rfl [1] rfl rfl (by omega) (by omega) dL_hash_16
set_option maxHeartbeats 400000 in
set_option maxRecDepth 100000 in
theorem lx_alter (l : Launch) (htr : l.stackTraces = false) (g : Gd) (sz : Nat) (h0 : Nat) (u : Nat → Nat) (v1 v2 : Int32) (a : Nat) (f : Nat → Int64)  : Met l y_L_alter w_L_alter ({ frames := 7, cells := 1, slots := 6, locals := 190 } : Room) (va_Pc [.ref h0, .int v1, .int v2, .ref a] (pr (ex g) g.1 vcl sz [(h0, .inr (0, [.ref (u 0), .int (nI 0), .ref (u 1), .int (nI 0), .ref (u 12), .int (nI 0), .ref (u 2), .ref (u 3), .ref (u 4), .ref (u 13), .ref (u 14)])), (a, .inl (g.2.1 2, 1, .inr (.inl f)))])) (va_Qi (fun (r : Int32) (u : Unit) => r = nI 1) (po g.1 vcl (va_A [(h0, .inr (0, [.ref (u 0), .int (nI 0), .ref (u 1), .int (nI 0), .ref (u 12), .int (nI 0), .ref (u 2), .ref (u 3), .ref (u 4), .ref (u 13), .ref (u 14)])), (a, .inl (g.2.1 2, 1, .inr (.inl f)))] sz) (fun (u : Unit) => [(a, .inl (g.2.1 2, 1, .inr (.inl f)))])) (va_A [(h0, .inr (0, [.ref (u 0), .int (nI 0), .ref (u 1), .int (nI 0), .ref (u 12), .int (nI 0), .ref (u 2), .ref (u 3), .ref (u 4), .ref (u 13), .ref (u 14)])), (a, .inl (g.2.1 2, 1, .inr (.inl f)))] sz)) 1 6 (va_A [(h0, .inr (0, [.ref (u 0), .int (nI 0), .ref (u 1), .int (nI 0), .ref (u 12), .int (nI 0), .ref (u 2), .ref (u 3), .ref (u 4), .ref (u 13), .ref (u 14)])), (a, .inl (g.2.1 2, 1, .inr (.inl f)))] sz) := by
  refine lc_entry (cc := c_L_alter) (maxL := 5) (ret := (some .int)) (hh := [(0, 10, 13, 29)]) (by decide) rfl (Nat.le_of_ble_eq_true rfl) ?_
  intro p e s m args below meth c ls F hr hlk htab hsz hP hD hX hA hl
  obtain ⟨hx, hb, hml, hown, hts⟩ := id F
  have hE := hX.1
  have hK := hE.1
  generalize va_A [(h0, .inr (0, [.ref (u 0), .int (nI 0), .ref (u 1), .int (nI 0), .ref (u 12), .int (nI 0), .ref (u 2), .ref (u 3), .ref (u 4), .ref (u 13), .ref (u 14)])), (a, .inl (g.2.1 2, 1, .inr (.inl f)))] sz = A at hD hX hE hA ⊢
  have hS : va_S A s.heap s.heap [] := va_S.rf
  have hl : lv_has ls 5 [(0, .ref h0), (1, .int v1), (2, .int v2), (3, .ref a)] := hl
  refine lv_aload_n hx hb dL_alter_0 rfl (lv_at hl 3 rfl) ?_
  refine lv_iconst (v := nI 0) hx hb dL_alter_1 (by decide) ?_
  refine lv_aload_n hx hb dL_alter_2 rfl (lv_at hl 0 rfl) ?_
  refine lv_iload_n hx hb dL_alter_3 rfl (lv_at hl 1 rfl) ?_
  refine lv_iload_n hx hb dL_alter_4 rfl (lv_at hl 2 rfl) ?_
  obtain ⟨x9, suf9, hsp, hx1, hx2, hx3, hx4⟩ := lc_tab htab
  refine xt_call (E := ex g) (C := "LatticeKeys") (own := "LatticeKeysLaw") (ex := "java/lang/IndexOutOfBoundsException") (name := "java/lang/IndexOutOfBoundsException") (As := [.int v1, .int v2]) (rest := [.int (nI 0), .ref a]) F (x_K_alter l htr g _ h0 u v1 v2) (cwV 2 hts (wg_app (wg_c kw_531 (wg_c kw_532 (wg_c kw_533 (wg_c kw_1 wg_n)))) kw_534) rfl rfl rfl (by decide +kernel) ⟨by decide, by decide⟩) (pr_V (ex_ok g) (q0 := 0) hK hP hD hS hA hX [0] rfl rfl rfl rfl) rfl hl.1 rfl (Nat.le_of_ble_eq_true rfl) dL_alter_5 ⟨by decide, by decide⟩ [] x9 suf9 hsp (fun z h => nomatch h) (by simp [covers, hx1, hx2]) (by rw [hx4]; decide) (by rw [hx4]; exact hts _ (wg_t kw_530)) (va_Nw.use rfl hX.2.2.2.2.1.2.1) (fun q9 H hz9 hk9 => ?_)
  rw [hx3]
  replace hS := lc_S hS hz9 hk9
  replace hP := lc_P hP hk9
  refine W.widen (k := 1) (n := 6) (by decide) (by decide) ?_
  refine lv_astore (lv' := [(4, .ref q9), (0, .ref h0), (1, .int v1), (2, .int v2), (3, .ref a)]) hx hb dL_alter_13 hl (by decide) rfl (fun ls hl => ?_)
  refine lv_iconst (v := nI 1) hx hb dL_alter_15 (by decide) ?_
  exact mc_iret hx hb hr hlk hP hD hS () rfl [1] rfl rfl (by omega) (by omega) dL_alter_16
set_option maxHeartbeats 400000 in
set_option maxRecDepth 100000 in
theorem lx_keys (l : Launch) (htr : l.stackTraces = false) (g : Gd) (sz : Nat) (h0 : Nat) (u : Nat → Nat) (v1 : Int32) (a : Nat) (f : Nat → Int64)  : Met l y_L_keys w_L_keys ({ frames := 7, cells := 1, slots := 6, locals := 190 } : Room) (va_Pc [.ref h0, .int v1, .ref a] (pr (ex g) g.1 vcl sz [(h0, .inr (0, [.ref (u 0), .int (nI 0), .ref (u 1), .int (nI 0), .ref (u 12), .int (nI 0), .ref (u 2), .ref (u 3), .ref (u 4), .ref (u 13), .ref (u 14)])), (a, .inl (g.2.1 2, 1, .inr (.inl f)))])) (va_Qi (fun (r : Int32) (u : Unit) => r = nI 1) (po g.1 vcl (va_A [(h0, .inr (0, [.ref (u 0), .int (nI 0), .ref (u 1), .int (nI 0), .ref (u 12), .int (nI 0), .ref (u 2), .ref (u 3), .ref (u 4), .ref (u 13), .ref (u 14)])), (a, .inl (g.2.1 2, 1, .inr (.inl f)))] sz) (fun (u : Unit) => [(a, .inl (g.2.1 2, 1, .inr (.inl f)))])) (va_A [(h0, .inr (0, [.ref (u 0), .int (nI 0), .ref (u 1), .int (nI 0), .ref (u 12), .int (nI 0), .ref (u 2), .ref (u 3), .ref (u 4), .ref (u 13), .ref (u 14)])), (a, .inl (g.2.1 2, 1, .inr (.inl f)))] sz)) 1 6 (va_A [(h0, .inr (0, [.ref (u 0), .int (nI 0), .ref (u 1), .int (nI 0), .ref (u 12), .int (nI 0), .ref (u 2), .ref (u 3), .ref (u 4), .ref (u 13), .ref (u 14)])), (a, .inl (g.2.1 2, 1, .inr (.inl f)))] sz) := by
  refine lc_entry (cc := c_L_keys) (maxL := 4) (ret := (some .int)) (hh := [(0, 9, 12, 19), (0, 9, 15, 13)]) (by decide) rfl (Nat.le_of_ble_eq_true rfl) ?_
  intro p e s m args below meth c ls F hr hlk htab hsz hP hD hX hA hl
  obtain ⟨hx, hb, hml, hown, hts⟩ := id F
  have hE := hX.1
  have hK := hE.1
  generalize va_A [(h0, .inr (0, [.ref (u 0), .int (nI 0), .ref (u 1), .int (nI 0), .ref (u 12), .int (nI 0), .ref (u 2), .ref (u 3), .ref (u 4), .ref (u 13), .ref (u 14)])), (a, .inl (g.2.1 2, 1, .inr (.inl f)))] sz = A at hD hX hE hA ⊢
  have hS : va_S A s.heap s.heap [] := va_S.rf
  have hl : lv_has ls 4 [(0, .ref h0), (1, .int v1), (2, .ref a)] := hl
  refine lv_aload_n hx hb dL_keys_0 rfl (lv_at hl 2 rfl) ?_
  refine lv_iconst (v := nI 0) hx hb dL_keys_1 (by decide) ?_
  refine lv_aload_n hx hb dL_keys_2 rfl (lv_at hl 0 rfl) ?_
  refine lv_iload_n hx hb dL_keys_3 rfl (lv_at hl 1 rfl) ?_
  obtain ⟨x9, suf9, hsp, hx1, hx2, hx3, hx4⟩ := lc_tab htab
  refine xt_call (E := ex g) (C := "LatticeKeys") (own := "LatticeKeysLaw") (ex := "java/lang/IllegalArgumentException") (name := "java/lang/IllegalArgumentException") (As := [.int v1]) (rest := [.int (nI 0), .ref a]) F (x_K_keys l htr g _ h0 u v1) (cwV 1 hts (wg_app (wg_c kw_554 (wg_c kw_555 (wg_c kw_556 (wg_c kw_1 wg_n)))) kw_557) rfl rfl rfl (by decide +kernel) ⟨by decide, by decide⟩) (pr_V (ex_ok g) (q0 := 0) hK hP hD hS hA hX [0] rfl rfl rfl rfl) rfl hl.1 rfl (Nat.le_of_ble_eq_true rfl) dL_keys_4 ⟨by decide, by decide⟩ [] x9 suf9 hsp (fun z h => nomatch h) (by simp [covers, hx1, hx2]) (by rw [hx4]; decide) (by rw [hx4]; exact hts _ (wg_t kw_496)) (va_Nw.use rfl hX.2.2.2.2.1.1) (fun q9 H hz9 hk9 => ?_)
  rw [hx3]
  replace hS := lc_S hS hz9 hk9
  replace hP := lc_P hP hk9
  refine W.widen (k := 1) (n := 6) (by decide) (by decide) ?_
  refine lv_astore_n (lv' := [(3, .ref q9), (0, .ref h0), (1, .int v1), (2, .ref a)]) hx hb dL_keys_12 rfl hl (by decide) rfl (fun ls hl => ?_)
  refine lv_iconst (v := nI 1) hx hb dL_keys_13 (by decide) ?_
  exact mc_iret hx hb hr hlk hP hD hS () rfl [1] rfl rfl (by omega) (by omega) dL_keys_14
set_option maxHeartbeats 400000 in
set_option maxRecDepth 100000 in
theorem lx_part (l : Launch) (htr : l.stackTraces = false) (g : Gd) (sz : Nat) (h0 : Nat) (u : Nat → Nat) (v1 v2 v3 : Int32) (a : Nat) (f : Nat → Int64)  : Met l y_L_part w_L_part ({ frames := 7, cells := 1, slots := 6, locals := 190 } : Room) (va_Pc [.ref h0, .int v1, .int v2, .int v3, .ref a] (pr (ex g) g.1 vcl sz [(h0, .inr (0, [.ref (u 0), .int (nI 0), .ref (u 1), .int (nI 0), .ref (u 12), .int (nI 0), .ref (u 2), .ref (u 3), .ref (u 4), .ref (u 13), .ref (u 14)])), (a, .inl (g.2.1 2, 1, .inr (.inl f)))])) (va_Qi (fun (r : Int32) (u : Unit) => r = nI 1) (po g.1 vcl (va_A [(h0, .inr (0, [.ref (u 0), .int (nI 0), .ref (u 1), .int (nI 0), .ref (u 12), .int (nI 0), .ref (u 2), .ref (u 3), .ref (u 4), .ref (u 13), .ref (u 14)])), (a, .inl (g.2.1 2, 1, .inr (.inl f)))] sz) (fun (u : Unit) => [(a, .inl (g.2.1 2, 1, .inr (.inl f)))])) (va_A [(h0, .inr (0, [.ref (u 0), .int (nI 0), .ref (u 1), .int (nI 0), .ref (u 12), .int (nI 0), .ref (u 2), .ref (u 3), .ref (u 4), .ref (u 13), .ref (u 14)])), (a, .inl (g.2.1 2, 1, .inr (.inl f)))] sz)) 1 6 (va_A [(h0, .inr (0, [.ref (u 0), .int (nI 0), .ref (u 1), .int (nI 0), .ref (u 12), .int (nI 0), .ref (u 2), .ref (u 3), .ref (u 4), .ref (u 13), .ref (u 14)])), (a, .inl (g.2.1 2, 1, .inr (.inl f)))] sz) := by
  refine lc_entry (cc := c_L_part) (maxL := 6) (ret := (some .int)) (hh := [(0, 12, 15, 44), (0, 12, 19, 29)]) (by decide) rfl (Nat.le_of_ble_eq_true rfl) ?_
  intro p e s m args below meth c ls F hr hlk htab hsz hP hD hX hA hl
  obtain ⟨hx, hb, hml, hown, hts⟩ := id F
  have hE := hX.1
  have hK := hE.1
  generalize va_A [(h0, .inr (0, [.ref (u 0), .int (nI 0), .ref (u 1), .int (nI 0), .ref (u 12), .int (nI 0), .ref (u 2), .ref (u 3), .ref (u 4), .ref (u 13), .ref (u 14)])), (a, .inl (g.2.1 2, 1, .inr (.inl f)))] sz = A at hD hX hE hA ⊢
  have hS : va_S A s.heap s.heap [] := va_S.rf
  have hl : lv_has ls 6 [(0, .ref h0), (1, .int v1), (2, .int v2), (3, .int v3), (4, .ref a)] := hl
  refine lv_aload hx hb dL_part_0 (lv_at hl 4 rfl) ?_
  refine lv_iconst (v := nI 0) hx hb dL_part_2 (by decide) ?_
  refine lv_aload_n hx hb dL_part_3 rfl (lv_at hl 0 rfl) ?_
  refine lv_iload_n hx hb dL_part_4 rfl (lv_at hl 1 rfl) ?_
  refine lv_iload_n hx hb dL_part_5 rfl (lv_at hl 2 rfl) ?_
  refine lv_iload_n hx hb dL_part_6 rfl (lv_at hl 3 rfl) ?_
  obtain ⟨x9, suf9, hsp, hx1, hx2, hx3, hx4⟩ := lc_tab htab
  refine xt_call (E := ex g) (C := "LatticeKeys") (own := "LatticeKeysLaw") (ex := "java/util/NoSuchElementException") (name := "java/util/NoSuchElementException") (As := [.int v1, .int v2, .int v3]) (rest := [.int (nI 0), .ref a]) F (x_K_part l htr g _ h0 u v1 v2 v3) (cwV 3 hts (wg_app (wg_c kw_1052 (wg_c kw_1053 (wg_c kw_1054 (wg_c kw_1 wg_n)))) kw_1055) rfl rfl rfl (by decide +kernel) ⟨by decide, by decide⟩) (pr_V (ex_ok g) (q0 := 0) hK hP hD hS hA hX [0] rfl rfl rfl rfl) rfl hl.1 rfl (Nat.le_of_ble_eq_true rfl) dL_part_7 ⟨by decide, by decide⟩ [] x9 suf9 hsp (fun z h => nomatch h) (by simp [covers, hx1, hx2]) (by rw [hx4]; decide) (by rw [hx4]; exact hts _ (wg_t kw_1051)) (va_Nw.use rfl hX.2.2.2.2.1.2.2) (fun q9 H hz9 hk9 => ?_)
  rw [hx3]
  replace hS := lc_S hS hz9 hk9
  replace hP := lc_P hP hk9
  refine W.widen (k := 1) (n := 6) (by decide) (by decide) ?_
  refine lv_astore (lv' := [(5, .ref q9), (0, .ref h0), (1, .int v1), (2, .int v2), (3, .int v3), (4, .ref a)]) hx hb dL_part_15 hl (by decide) rfl (fun ls hl => ?_)
  refine lv_iconst (v := nI 1) hx hb dL_part_17 (by decide) ?_
  exact mc_iret hx hb hr hlk hP hD hS () rfl [1] rfl rfl (by omega) (by omega) dL_part_18
set_option maxHeartbeats 400000 in
set_option maxRecDepth 100000 in
theorem lx_show (l : Launch) (htr : l.stackTraces = false) (g : Gd) (sz : Nat) (h0 : Nat) (u : Nat → Nat) (v1 v2 : Int32) (a : Nat) (f : Nat → Int64)  : Met l y_L_show w_L_show ({ frames := 7, cells := 1, slots := 6, locals := 190 } : Room) (va_Pc [.ref h0, .int v1, .int v2, .ref a] (pr (ex g) g.1 vcl sz [(h0, .inr (0, [.ref (u 0), .int (nI 0), .ref (u 1), .int (nI 0), .ref (u 12), .int (nI 0), .ref (u 2), .ref (u 3), .ref (u 4), .ref (u 13), .ref (u 14)])), (a, .inl (g.2.1 2, 1, .inr (.inl f)))])) (va_Qi (fun (r : Int32) (u : Unit) => r = nI 1) (po g.1 vcl (va_A [(h0, .inr (0, [.ref (u 0), .int (nI 0), .ref (u 1), .int (nI 0), .ref (u 12), .int (nI 0), .ref (u 2), .ref (u 3), .ref (u 4), .ref (u 13), .ref (u 14)])), (a, .inl (g.2.1 2, 1, .inr (.inl f)))] sz) (fun (u : Unit) => [(a, .inl (g.2.1 2, 1, .inr (.inl f)))])) (va_A [(h0, .inr (0, [.ref (u 0), .int (nI 0), .ref (u 1), .int (nI 0), .ref (u 12), .int (nI 0), .ref (u 2), .ref (u 3), .ref (u 4), .ref (u 13), .ref (u 14)])), (a, .inl (g.2.1 2, 1, .inr (.inl f)))] sz)) 1 6 (va_A [(h0, .inr (0, [.ref (u 0), .int (nI 0), .ref (u 1), .int (nI 0), .ref (u 12), .int (nI 0), .ref (u 2), .ref (u 3), .ref (u 4), .ref (u 13), .ref (u 14)])), (a, .inl (g.2.1 2, 1, .inr (.inl f)))] sz) := by
  refine lc_entry (cc := c_L_show) (maxL := 5) (ret := (some .int)) (hh := [(0, 10, 13, 44)]) (by decide) rfl (Nat.le_of_ble_eq_true rfl) ?_
  intro p e s m args below meth c ls F hr hlk htab hsz hP hD hX hA hl
  obtain ⟨hx, hb, hml, hown, hts⟩ := id F
  have hE := hX.1
  have hK := hE.1
  generalize va_A [(h0, .inr (0, [.ref (u 0), .int (nI 0), .ref (u 1), .int (nI 0), .ref (u 12), .int (nI 0), .ref (u 2), .ref (u 3), .ref (u 4), .ref (u 13), .ref (u 14)])), (a, .inl (g.2.1 2, 1, .inr (.inl f)))] sz = A at hD hX hE hA ⊢
  have hS : va_S A s.heap s.heap [] := va_S.rf
  have hl : lv_has ls 5 [(0, .ref h0), (1, .int v1), (2, .int v2), (3, .ref a)] := hl
  refine lv_aload_n hx hb dL_show_0 rfl (lv_at hl 3 rfl) ?_
  refine lv_iconst (v := nI 0) hx hb dL_show_1 (by decide) ?_
  refine lv_aload_n hx hb dL_show_2 rfl (lv_at hl 0 rfl) ?_
  refine lv_iload_n hx hb dL_show_3 rfl (lv_at hl 1 rfl) ?_
  refine lv_iload_n hx hb dL_show_4 rfl (lv_at hl 2 rfl) ?_
  obtain ⟨x9, suf9, hsp, hx1, hx2, hx3, hx4⟩ := lc_tab htab
  refine xt_call (E := ex g) (C := "LatticeKeys") (own := "LatticeKeysLaw") (ex := "java/util/NoSuchElementException") (name := "java/util/NoSuchElementException") (As := [.int v1, .int v2]) (rest := [.int (nI 0), .ref a]) F (x_K_show l htr g _ h0 u v1 v2) (cwV 2 hts (wg_app (wg_c kw_1084 (wg_c kw_1085 (wg_c kw_1086 (wg_c kw_1 wg_n)))) kw_1087) rfl rfl rfl (by decide +kernel) ⟨by decide, by decide⟩) (pr_V (ex_ok g) (q0 := 0) hK hP hD hS hA hX [0] rfl rfl rfl rfl) rfl hl.1 rfl (Nat.le_of_ble_eq_true rfl) dL_show_5 ⟨by decide, by decide⟩ [] x9 suf9 hsp (fun z h => nomatch h) (by simp [covers, hx1, hx2]) (by rw [hx4]; decide) (by rw [hx4]; exact hts _ (wg_t kw_1051)) (va_Nw.use rfl hX.2.2.2.2.1.2.2) (fun q9 H hz9 hk9 => ?_)
  rw [hx3]
  replace hS := lc_S hS hz9 hk9
  replace hP := lc_P hP hk9
  refine W.widen (k := 1) (n := 6) (by decide) (by decide) ?_
  refine lv_astore (lv' := [(4, .ref q9), (0, .ref h0), (1, .int v1), (2, .int v2), (3, .ref a)]) hx hb dL_show_13 hl (by decide) rfl (fun ls hl => ?_)
  refine lv_iconst (v := nI 1) hx hb dL_show_15 (by decide) ?_
  exact mc_iret hx hb hr hlk hP hD hS () rfl [1] rfl rfl (by omega) (by omega) dL_show_16
set_option maxHeartbeats 400000 in
set_option maxRecDepth 100000 in
theorem lx_told (l : Launch) (htr : l.stackTraces = false) (g : Gd) (sz : Nat) (h0 : Nat) (u : Nat → Nat) (v1 v2 : Int32) (a : Nat) (f : Nat → Int64)  : Met l y_L_told w_L_told ({ frames := 7, cells := 1, slots := 6, locals := 190 } : Room) (va_Pc [.ref h0, .int v1, .int v2, .ref a] (pr (ex g) g.1 vcl sz [(h0, .inr (0, [.ref (u 0), .int (nI 0), .ref (u 1), .int (nI 0), .ref (u 12), .int (nI 0), .ref (u 2), .ref (u 3), .ref (u 4), .ref (u 13), .ref (u 14)])), (a, .inl (g.2.1 2, 1, .inr (.inl f)))])) (va_Qi (fun (r : Int32) (u : Unit) => r = nI 1) (po g.1 vcl (va_A [(h0, .inr (0, [.ref (u 0), .int (nI 0), .ref (u 1), .int (nI 0), .ref (u 12), .int (nI 0), .ref (u 2), .ref (u 3), .ref (u 4), .ref (u 13), .ref (u 14)])), (a, .inl (g.2.1 2, 1, .inr (.inl f)))] sz) (fun (u : Unit) => [(a, .inl (g.2.1 2, 1, .inr (.inl f)))])) (va_A [(h0, .inr (0, [.ref (u 0), .int (nI 0), .ref (u 1), .int (nI 0), .ref (u 12), .int (nI 0), .ref (u 2), .ref (u 3), .ref (u 4), .ref (u 13), .ref (u 14)])), (a, .inl (g.2.1 2, 1, .inr (.inl f)))] sz)) 1 6 (va_A [(h0, .inr (0, [.ref (u 0), .int (nI 0), .ref (u 1), .int (nI 0), .ref (u 12), .int (nI 0), .ref (u 2), .ref (u 3), .ref (u 4), .ref (u 13), .ref (u 14)])), (a, .inl (g.2.1 2, 1, .inr (.inl f)))] sz) := by
  refine lc_entry (cc := c_L_told) (maxL := 5) (ret := (some .int)) (hh := [(0, 10, 13, 44), (0, 10, 17, 19)]) (by decide) rfl (Nat.le_of_ble_eq_true rfl) ?_
  intro p e s m args below meth c ls F hr hlk htab hsz hP hD hX hA hl
  obtain ⟨hx, hb, hml, hown, hts⟩ := id F
  have hE := hX.1
  have hK := hE.1
  generalize va_A [(h0, .inr (0, [.ref (u 0), .int (nI 0), .ref (u 1), .int (nI 0), .ref (u 12), .int (nI 0), .ref (u 2), .ref (u 3), .ref (u 4), .ref (u 13), .ref (u 14)])), (a, .inl (g.2.1 2, 1, .inr (.inl f)))] sz = A at hD hX hE hA ⊢
  have hS : va_S A s.heap s.heap [] := va_S.rf
  have hl : lv_has ls 5 [(0, .ref h0), (1, .int v1), (2, .int v2), (3, .ref a)] := hl
  refine lv_aload_n hx hb dL_told_0 rfl (lv_at hl 3 rfl) ?_
  refine lv_iconst (v := nI 0) hx hb dL_told_1 (by decide) ?_
  refine lv_aload_n hx hb dL_told_2 rfl (lv_at hl 0 rfl) ?_
  refine lv_iload_n hx hb dL_told_3 rfl (lv_at hl 1 rfl) ?_
  refine lv_iload_n hx hb dL_told_4 rfl (lv_at hl 2 rfl) ?_
  obtain ⟨x9, suf9, hsp, hx1, hx2, hx3, hx4⟩ := lc_tab htab
  refine xt_call (E := ex g) (C := "LatticeKeys") (own := "LatticeKeysLaw") (ex := "java/util/NoSuchElementException") (name := "java/util/NoSuchElementException") (As := [.int v1, .int v2]) (rest := [.int (nI 0), .ref a]) F (x_K_told l htr g _ h0 u v1 v2) (cwV 2 hts (wg_app (wg_c kw_1091 (wg_c kw_1092 (wg_c kw_1093 (wg_c kw_1 wg_n)))) kw_1094) rfl rfl rfl (by decide +kernel) ⟨by decide, by decide⟩) (pr_V (ex_ok g) (q0 := 0) hK hP hD hS hA hX [0] rfl rfl rfl rfl) rfl hl.1 rfl (Nat.le_of_ble_eq_true rfl) dL_told_5 ⟨by decide, by decide⟩ [] x9 suf9 hsp (fun z h => nomatch h) (by simp [covers, hx1, hx2]) (by rw [hx4]; decide) (by rw [hx4]; exact hts _ (wg_t kw_1051)) (va_Nw.use rfl hX.2.2.2.2.1.2.2) (fun q9 H hz9 hk9 => ?_)
  rw [hx3]
  replace hS := lc_S hS hz9 hk9
  replace hP := lc_P hP hk9
  refine W.widen (k := 1) (n := 6) (by decide) (by decide) ?_
  refine lv_astore (lv' := [(4, .ref q9), (0, .ref h0), (1, .int v1), (2, .int v2), (3, .ref a)]) hx hb dL_told_13 hl (by decide) rfl (fun ls hl => ?_)
  refine lv_iconst (v := nI 1) hx hb dL_told_15 (by decide) ?_
  exact mc_iret hx hb hr hlk hP hD hS () rfl [1] rfl rfl (by omega) (by omega) dL_told_16
set_option maxHeartbeats 400000 in
set_option maxRecDepth 100000 in
theorem lx_seal (l : Launch) (htr : l.stackTraces = false) (g : Gd) (sz : Nat) (h0 : Nat) (u : Nat → Nat) (v1 : Int32) (a : Nat) (f : Nat → Int64)  : Met l y_L_seal w_L_seal ({ frames := 7, cells := 1, slots := 6, locals := 190 } : Room) (va_Pc [.ref h0, .int v1, .ref a] (pr (ex g) g.1 vcl sz [(h0, .inr (0, [.ref (u 0), .int (nI 0), .ref (u 1), .int (nI 0), .ref (u 12), .int (nI 0), .ref (u 2), .ref (u 3), .ref (u 4), .ref (u 13), .ref (u 14)])), (a, .inl (g.2.1 2, 1, .inr (.inl f)))])) (va_Qi (fun (r : Int32) (u : Unit) => r = nI 1) (po g.1 vcl (va_A [(h0, .inr (0, [.ref (u 0), .int (nI 0), .ref (u 1), .int (nI 0), .ref (u 12), .int (nI 0), .ref (u 2), .ref (u 3), .ref (u 4), .ref (u 13), .ref (u 14)])), (a, .inl (g.2.1 2, 1, .inr (.inl f)))] sz) (fun (u : Unit) => [(a, .inl (g.2.1 2, 1, .inr (.inl f)))])) (va_A [(h0, .inr (0, [.ref (u 0), .int (nI 0), .ref (u 1), .int (nI 0), .ref (u 12), .int (nI 0), .ref (u 2), .ref (u 3), .ref (u 4), .ref (u 13), .ref (u 14)])), (a, .inl (g.2.1 2, 1, .inr (.inl f)))] sz)) 1 6 (va_A [(h0, .inr (0, [.ref (u 0), .int (nI 0), .ref (u 1), .int (nI 0), .ref (u 12), .int (nI 0), .ref (u 2), .ref (u 3), .ref (u 4), .ref (u 13), .ref (u 14)])), (a, .inl (g.2.1 2, 1, .inr (.inl f)))] sz) := by
  refine lc_entry (cc := c_L_seal) (maxL := 4) (ret := (some .int)) (hh := [(0, 9, 12, 44), (0, 9, 15, 19)]) (by decide) rfl (Nat.le_of_ble_eq_true rfl) ?_
  intro p e s m args below meth c ls F hr hlk htab hsz hP hD hX hA hl
  obtain ⟨hx, hb, hml, hown, hts⟩ := id F
  have hE := hX.1
  have hK := hE.1
  generalize va_A [(h0, .inr (0, [.ref (u 0), .int (nI 0), .ref (u 1), .int (nI 0), .ref (u 12), .int (nI 0), .ref (u 2), .ref (u 3), .ref (u 4), .ref (u 13), .ref (u 14)])), (a, .inl (g.2.1 2, 1, .inr (.inl f)))] sz = A at hD hX hE hA ⊢
  have hS : va_S A s.heap s.heap [] := va_S.rf
  have hl : lv_has ls 4 [(0, .ref h0), (1, .int v1), (2, .ref a)] := hl
  refine lv_aload_n hx hb dL_seal_0 rfl (lv_at hl 2 rfl) ?_
  refine lv_iconst (v := nI 0) hx hb dL_seal_1 (by decide) ?_
  refine lv_aload_n hx hb dL_seal_2 rfl (lv_at hl 0 rfl) ?_
  refine lv_iload_n hx hb dL_seal_3 rfl (lv_at hl 1 rfl) ?_
  obtain ⟨x9, suf9, hsp, hx1, hx2, hx3, hx4⟩ := lc_tab htab
  refine xt_call (E := ex g) (C := "LatticeKeys") (own := "LatticeKeysLaw") (ex := "java/util/NoSuchElementException") (name := "java/util/NoSuchElementException") (As := [.int v1]) (rest := [.int (nI 0), .ref a]) F (x_K_seal l htr g _ h0 u v1) (cwV 1 hts (wg_app (wg_c kw_1100 (wg_c kw_1101 (wg_c kw_1102 (wg_c kw_1 wg_n)))) kw_1103) rfl rfl rfl (by decide +kernel) ⟨by decide, by decide⟩) (pr_V (ex_ok g) (q0 := 0) hK hP hD hS hA hX [0] rfl rfl rfl rfl) rfl hl.1 rfl (Nat.le_of_ble_eq_true rfl) dL_seal_4 ⟨by decide, by decide⟩ [] x9 suf9 hsp (fun z h => nomatch h) (by simp [covers, hx1, hx2]) (by rw [hx4]; decide) (by rw [hx4]; exact hts _ (wg_t kw_1051)) (va_Nw.use rfl hX.2.2.2.2.1.2.2) (fun q9 H hz9 hk9 => ?_)
  rw [hx3]
  replace hS := lc_S hS hz9 hk9
  replace hP := lc_P hP hk9
  refine W.widen (k := 1) (n := 6) (by decide) (by decide) ?_
  refine lv_astore_n (lv' := [(3, .ref q9), (0, .ref h0), (1, .int v1), (2, .ref a)]) hx hb dL_seal_12 rfl hl (by decide) rfl (fun ls hl => ?_)
  refine lv_iconst (v := nI 1) hx hb dL_seal_13 (by decide) ?_
  exact mc_iret hx hb hr hlk hP hD hS () rfl [1] rfl rfl (by omega) (by omega) dL_seal_14
set_option maxHeartbeats 400000 in
set_option maxRecDepth 100000 in
theorem lx_open (l : Launch) (htr : l.stackTraces = false) (g : Gd) (sz : Nat) (h0 : Nat) (u : Nat → Nat) (v1 : Int32) (a : Nat) (f : Nat → Int64)  : Met l y_L_open w_L_open ({ frames := 7, cells := 1, slots := 6, locals := 190 } : Room) (va_Pc [.ref h0, .int v1, .ref a] (pr (ex g) g.1 vcl sz [(h0, .inr (0, [.ref (u 0), .int (nI 0), .ref (u 1), .int (nI 0), .ref (u 12), .int (nI 0), .ref (u 2), .ref (u 3), .ref (u 4), .ref (u 13), .ref (u 14)])), (a, .inl (g.2.1 2, 1, .inr (.inl f)))])) (va_Qi (fun (r : Int32) (u : Unit) => r = nI 1) (po g.1 vcl (va_A [(h0, .inr (0, [.ref (u 0), .int (nI 0), .ref (u 1), .int (nI 0), .ref (u 12), .int (nI 0), .ref (u 2), .ref (u 3), .ref (u 4), .ref (u 13), .ref (u 14)])), (a, .inl (g.2.1 2, 1, .inr (.inl f)))] sz) (fun (u : Unit) => [(a, .inl (g.2.1 2, 1, .inr (.inl f)))])) (va_A [(h0, .inr (0, [.ref (u 0), .int (nI 0), .ref (u 1), .int (nI 0), .ref (u 12), .int (nI 0), .ref (u 2), .ref (u 3), .ref (u 4), .ref (u 13), .ref (u 14)])), (a, .inl (g.2.1 2, 1, .inr (.inl f)))] sz)) 1 6 (va_A [(h0, .inr (0, [.ref (u 0), .int (nI 0), .ref (u 1), .int (nI 0), .ref (u 12), .int (nI 0), .ref (u 2), .ref (u 3), .ref (u 4), .ref (u 13), .ref (u 14)])), (a, .inl (g.2.1 2, 1, .inr (.inl f)))] sz) := by
  refine lc_entry (cc := c_L_open) (maxL := 4) (ret := (some .int)) (hh := [(0, 9, 12, 44), (0, 9, 15, 19)]) (by decide) rfl (Nat.le_of_ble_eq_true rfl) ?_
  intro p e s m args below meth c ls F hr hlk htab hsz hP hD hX hA hl
  obtain ⟨hx, hb, hml, hown, hts⟩ := id F
  have hE := hX.1
  have hK := hE.1
  generalize va_A [(h0, .inr (0, [.ref (u 0), .int (nI 0), .ref (u 1), .int (nI 0), .ref (u 12), .int (nI 0), .ref (u 2), .ref (u 3), .ref (u 4), .ref (u 13), .ref (u 14)])), (a, .inl (g.2.1 2, 1, .inr (.inl f)))] sz = A at hD hX hE hA ⊢
  have hS : va_S A s.heap s.heap [] := va_S.rf
  have hl : lv_has ls 4 [(0, .ref h0), (1, .int v1), (2, .ref a)] := hl
  refine lv_aload_n hx hb dL_open_0 rfl (lv_at hl 2 rfl) ?_
  refine lv_iconst (v := nI 0) hx hb dL_open_1 (by decide) ?_
  refine lv_aload_n hx hb dL_open_2 rfl (lv_at hl 0 rfl) ?_
  refine lv_iload_n hx hb dL_open_3 rfl (lv_at hl 1 rfl) ?_
  obtain ⟨x9, suf9, hsp, hx1, hx2, hx3, hx4⟩ := lc_tab htab
  refine xt_call (E := ex g) (C := "LatticeKeys") (own := "LatticeKeysLaw") (ex := "java/util/NoSuchElementException") (name := "java/util/NoSuchElementException") (As := [.int v1]) (rest := [.int (nI 0), .ref a]) F (x_K_open l htr g _ h0 u v1) (cwV 1 hts (wg_app (wg_c kw_1140 (wg_c kw_1141 (wg_c kw_1142 (wg_c kw_1 wg_n)))) kw_1143) rfl rfl rfl (by decide +kernel) ⟨by decide, by decide⟩) (pr_V (ex_ok g) (q0 := 0) hK hP hD hS hA hX [0] rfl rfl rfl rfl) rfl hl.1 rfl (Nat.le_of_ble_eq_true rfl) dL_open_4 ⟨by decide, by decide⟩ [] x9 suf9 hsp (fun z h => nomatch h) (by simp [covers, hx1, hx2]) (by rw [hx4]; decide) (by rw [hx4]; exact hts _ (wg_t kw_1051)) (va_Nw.use rfl hX.2.2.2.2.1.2.2) (fun q9 H hz9 hk9 => ?_)
  rw [hx3]
  replace hS := lc_S hS hz9 hk9
  replace hP := lc_P hP hk9
  refine W.widen (k := 1) (n := 6) (by decide) (by decide) ?_
  refine lv_astore_n (lv' := [(3, .ref q9), (0, .ref h0), (1, .int v1), (2, .ref a)]) hx hb dL_open_12 rfl hl (by decide) rfl (fun ls hl => ?_)
  refine lv_iconst (v := nI 1) hx hb dL_open_13 (by decide) ?_
  exact mc_iret hx hb hr hlk hP hD hS () rfl [1] rfl rfl (by omega) (by omega) dL_open_14
set_option maxHeartbeats 400000 in
set_option maxRecDepth 100000 in
theorem lx_sign (l : Launch) (htr : l.stackTraces = false) (g : Gd) (sz : Nat) (h0 : Nat) (u : Nat → Nat) (v1 v2 : Int32) (a : Nat) (f : Nat → Int64)  : Met l y_L_sign w_L_sign ({ frames := 7, cells := 1, slots := 6, locals := 190 } : Room) (va_Pc [.ref h0, .int v1, .int v2, .ref a] (pr (ex g) g.1 vcl sz [(h0, .inr (0, [.ref (u 0), .int (nI 0), .ref (u 1), .int (nI 0), .ref (u 12), .int (nI 0), .ref (u 2), .ref (u 3), .ref (u 4), .ref (u 13), .ref (u 14)])), (a, .inl (g.2.1 2, 1, .inr (.inl f)))])) (va_Qi (fun (r : Int32) (u : Unit) => r = nI 1) (po g.1 vcl (va_A [(h0, .inr (0, [.ref (u 0), .int (nI 0), .ref (u 1), .int (nI 0), .ref (u 12), .int (nI 0), .ref (u 2), .ref (u 3), .ref (u 4), .ref (u 13), .ref (u 14)])), (a, .inl (g.2.1 2, 1, .inr (.inl f)))] sz) (fun (u : Unit) => [(a, .inl (g.2.1 2, 1, .inr (.inl f)))])) (va_A [(h0, .inr (0, [.ref (u 0), .int (nI 0), .ref (u 1), .int (nI 0), .ref (u 12), .int (nI 0), .ref (u 2), .ref (u 3), .ref (u 4), .ref (u 13), .ref (u 14)])), (a, .inl (g.2.1 2, 1, .inr (.inl f)))] sz)) 1 6 (va_A [(h0, .inr (0, [.ref (u 0), .int (nI 0), .ref (u 1), .int (nI 0), .ref (u 12), .int (nI 0), .ref (u 2), .ref (u 3), .ref (u 4), .ref (u 13), .ref (u 14)])), (a, .inl (g.2.1 2, 1, .inr (.inl f)))] sz) := by
  refine lc_entry (cc := c_L_sign) (maxL := 5) (ret := (some .int)) (hh := [(0, 10, 13, 44), (0, 10, 17, 19), (0, 10, 21, 13)]) (by decide) rfl (Nat.le_of_ble_eq_true rfl) ?_
  intro p e s m args below meth c ls F hr hlk htab hsz hP hD hX hA hl
  obtain ⟨hx, hb, hml, hown, hts⟩ := id F
  have hE := hX.1
  have hK := hE.1
  generalize va_A [(h0, .inr (0, [.ref (u 0), .int (nI 0), .ref (u 1), .int (nI 0), .ref (u 12), .int (nI 0), .ref (u 2), .ref (u 3), .ref (u 4), .ref (u 13), .ref (u 14)])), (a, .inl (g.2.1 2, 1, .inr (.inl f)))] sz = A at hD hX hE hA ⊢
  have hS : va_S A s.heap s.heap [] := va_S.rf
  have hl : lv_has ls 5 [(0, .ref h0), (1, .int v1), (2, .int v2), (3, .ref a)] := hl
  refine lv_aload_n hx hb dL_sign_0 rfl (lv_at hl 3 rfl) ?_
  refine lv_iconst (v := nI 0) hx hb dL_sign_1 (by decide) ?_
  refine lv_aload_n hx hb dL_sign_2 rfl (lv_at hl 0 rfl) ?_
  refine lv_iload_n hx hb dL_sign_3 rfl (lv_at hl 1 rfl) ?_
  refine lv_iload_n hx hb dL_sign_4 rfl (lv_at hl 2 rfl) ?_
  obtain ⟨x9, suf9, hsp, hx1, hx2, hx3, hx4⟩ := lc_tab htab
  refine xt_call (E := ex g) (C := "LatticeKeys") (own := "LatticeKeysLaw") (ex := "java/util/NoSuchElementException") (name := "java/util/NoSuchElementException") (As := [.int v1, .int v2]) (rest := [.int (nI 0), .ref a]) F (x_K_sign l htr g _ h0 u v1 v2) (cwV 2 hts (wg_app (wg_c kw_1161 (wg_c kw_1162 (wg_c kw_1163 (wg_c kw_1 wg_n)))) kw_1164) rfl rfl rfl (by decide +kernel) ⟨by decide, by decide⟩) (pr_V (ex_ok g) (q0 := 0) hK hP hD hS hA hX [0] rfl rfl rfl rfl) rfl hl.1 rfl (Nat.le_of_ble_eq_true rfl) dL_sign_5 ⟨by decide, by decide⟩ [] x9 suf9 hsp (fun z h => nomatch h) (by simp [covers, hx1, hx2]) (by rw [hx4]; decide) (by rw [hx4]; exact hts _ (wg_t kw_1051)) (va_Nw.use rfl hX.2.2.2.2.1.2.2) (fun q9 H hz9 hk9 => ?_)
  rw [hx3]
  replace hS := lc_S hS hz9 hk9
  replace hP := lc_P hP hk9
  refine W.widen (k := 1) (n := 6) (by decide) (by decide) ?_
  refine lv_astore (lv' := [(4, .ref q9), (0, .ref h0), (1, .int v1), (2, .int v2), (3, .ref a)]) hx hb dL_sign_13 hl (by decide) rfl (fun ls hl => ?_)
  refine lv_iconst (v := nI 1) hx hb dL_sign_15 (by decide) ?_
  exact mc_iret hx hb hr hlk hP hD hS () rfl [1] rfl rfl (by omega) (by omega) dL_sign_16
set_option maxHeartbeats 400000 in
set_option maxRecDepth 100000 in
theorem lx_verify (l : Launch) (htr : l.stackTraces = false) (g : Gd) (sz : Nat) (h0 : Nat) (u : Nat → Nat) (v1 v2 : Int32) (a : Nat) (f : Nat → Int64)  : Met l y_L_verify w_L_verify ({ frames := 7, cells := 1, slots := 6, locals := 190 } : Room) (va_Pc [.ref h0, .int v1, .int v2, .ref a] (pr (ex g) g.1 vcl sz [(h0, .inr (0, [.ref (u 0), .int (nI 0), .ref (u 1), .int (nI 0), .ref (u 12), .int (nI 0), .ref (u 2), .ref (u 3), .ref (u 4), .ref (u 13), .ref (u 14)])), (a, .inl (g.2.1 2, 1, .inr (.inl f)))])) (va_Qi (fun (r : Int32) (u : Unit) => r = nI 1) (po g.1 vcl (va_A [(h0, .inr (0, [.ref (u 0), .int (nI 0), .ref (u 1), .int (nI 0), .ref (u 12), .int (nI 0), .ref (u 2), .ref (u 3), .ref (u 4), .ref (u 13), .ref (u 14)])), (a, .inl (g.2.1 2, 1, .inr (.inl f)))] sz) (fun (u : Unit) => [(a, .inl (g.2.1 2, 1, .inr (.inl f)))])) (va_A [(h0, .inr (0, [.ref (u 0), .int (nI 0), .ref (u 1), .int (nI 0), .ref (u 12), .int (nI 0), .ref (u 2), .ref (u 3), .ref (u 4), .ref (u 13), .ref (u 14)])), (a, .inl (g.2.1 2, 1, .inr (.inl f)))] sz)) 1 6 (va_A [(h0, .inr (0, [.ref (u 0), .int (nI 0), .ref (u 1), .int (nI 0), .ref (u 12), .int (nI 0), .ref (u 2), .ref (u 3), .ref (u 4), .ref (u 13), .ref (u 14)])), (a, .inl (g.2.1 2, 1, .inr (.inl f)))] sz) := by
  refine lc_entry (cc := c_L_verify) (maxL := 5) (ret := (some .int)) (hh := [(0, 17, 20, 44), (0, 17, 24, 19)]) (by decide) rfl (Nat.le_of_ble_eq_true rfl) ?_
  intro p e s m args below meth c ls F hr hlk htab hsz hP hD hX hA hl
  obtain ⟨hx, hb, hml, hown, hts⟩ := id F
  have hE := hX.1
  have hK := hE.1
  generalize va_A [(h0, .inr (0, [.ref (u 0), .int (nI 0), .ref (u 1), .int (nI 0), .ref (u 12), .int (nI 0), .ref (u 2), .ref (u 3), .ref (u 4), .ref (u 13), .ref (u 14)])), (a, .inl (g.2.1 2, 1, .inr (.inl f)))] sz = A at hD hX hE hA ⊢
  have hS : va_S A s.heap s.heap [] := va_S.rf
  have hl : lv_has ls 5 [(0, .ref h0), (1, .int v1), (2, .int v2), (3, .ref a)] := hl
  refine lv_aload_n hx hb dL_verify_0 rfl (lv_at hl 3 rfl) ?_
  refine lv_iconst (v := nI 0) hx hb dL_verify_1 (by decide) ?_
  refine lv_aload_n hx hb dL_verify_2 rfl (lv_at hl 0 rfl) ?_
  refine lv_iload_n hx hb dL_verify_3 rfl (lv_at hl 1 rfl) ?_
  refine lv_iload_n hx hb dL_verify_4 rfl (lv_at hl 2 rfl) ?_
  obtain ⟨x9, suf9, hsp, hx1, hx2, hx3, hx4⟩ := lc_tab htab
  refine xt_call (E := ex g) (C := "LatticeKeys") (own := "LatticeKeysLaw") (ex := "java/util/NoSuchElementException") (name := "java/util/NoSuchElementException") (As := [.int v1, .int v2]) (rest := [.int (nI 0), .ref a]) F (x_K_verify l htr g _ h0 u v1 v2) (cwV 2 hts (wg_app (wg_c kw_1256 (wg_c kw_1257 (wg_c kw_1258 (wg_c kw_1 wg_n)))) kw_1259) rfl rfl rfl (by decide +kernel) ⟨by decide, by decide⟩) (pr_V (ex_ok g) (q0 := 0) hK hP hD hS hA hX [0] rfl rfl rfl rfl) rfl hl.1 rfl (Nat.le_of_ble_eq_true rfl) dL_verify_5 ⟨by decide, by decide⟩ [] x9 suf9 hsp (fun z h => nomatch h) (by simp [covers, hx1, hx2]) (by rw [hx4]; decide) (by rw [hx4]; exact hts _ (wg_t kw_1051)) (va_Nw.use rfl hX.2.2.2.2.1.2.2) (fun q9 H hz9 hk9 => ?_)
  rw [hx3]
  replace hS := lc_S hS hz9 hk9
  replace hP := lc_P hP hk9
  refine W.widen (k := 1) (n := 6) (by decide) (by decide) ?_
  refine lv_astore (lv' := [(4, .ref q9), (0, .ref h0), (1, .int v1), (2, .int v2), (3, .ref a)]) hx hb dL_verify_20 hl (by decide) rfl (fun ls hl => ?_)
  refine lv_iconst (v := nI 1) hx hb dL_verify_22 (by decide) ?_
  exact mc_iret hx hb hr hlk hP hD hS () rfl [1] rfl rfl (by omega) (by omega) dL_verify_23
set_option maxHeartbeats 400000 in
set_option maxRecDepth 100000 in
theorem lx_result (l : Launch) (htr : l.stackTraces = false) (g : Gd) (sz : Nat) (h0 : Nat) (u : Nat → Nat) (v1 : Int32) (a : Nat) (f : Nat → Int64)  : Met l y_L_result w_L_result ({ frames := 7, cells := 1, slots := 6, locals := 190 } : Room) (va_Pc [.ref h0, .int v1, .ref a] (pr (ex g) g.1 vcl sz [(h0, .inr (0, [.ref (u 0), .int (nI 0), .ref (u 1), .int (nI 0), .ref (u 12), .int (nI 0), .ref (u 2), .ref (u 3), .ref (u 4), .ref (u 13), .ref (u 14)])), (a, .inl (g.2.1 2, 1, .inr (.inl f)))])) (va_Qi (fun (r : Int32) (u : Unit) => r = nI 1) (po g.1 vcl (va_A [(h0, .inr (0, [.ref (u 0), .int (nI 0), .ref (u 1), .int (nI 0), .ref (u 12), .int (nI 0), .ref (u 2), .ref (u 3), .ref (u 4), .ref (u 13), .ref (u 14)])), (a, .inl (g.2.1 2, 1, .inr (.inl f)))] sz) (fun (u : Unit) => [(a, .inl (g.2.1 2, 1, .inr (.inl f)))])) (va_A [(h0, .inr (0, [.ref (u 0), .int (nI 0), .ref (u 1), .int (nI 0), .ref (u 12), .int (nI 0), .ref (u 2), .ref (u 3), .ref (u 4), .ref (u 13), .ref (u 14)])), (a, .inl (g.2.1 2, 1, .inr (.inl f)))] sz)) 1 6 (va_A [(h0, .inr (0, [.ref (u 0), .int (nI 0), .ref (u 1), .int (nI 0), .ref (u 12), .int (nI 0), .ref (u 2), .ref (u 3), .ref (u 4), .ref (u 13), .ref (u 14)])), (a, .inl (g.2.1 2, 1, .inr (.inl f)))] sz) := by
  refine lc_entry (cc := c_L_result) (maxL := 4) (ret := (some .int)) (hh := [(0, 9, 12, 29)]) (by decide) rfl (Nat.le_of_ble_eq_true rfl) ?_
  intro p e s m args below meth c ls F hr hlk htab hsz hP hD hX hA hl
  obtain ⟨hx, hb, hml, hown, hts⟩ := id F
  have hE := hX.1
  have hK := hE.1
  generalize va_A [(h0, .inr (0, [.ref (u 0), .int (nI 0), .ref (u 1), .int (nI 0), .ref (u 12), .int (nI 0), .ref (u 2), .ref (u 3), .ref (u 4), .ref (u 13), .ref (u 14)])), (a, .inl (g.2.1 2, 1, .inr (.inl f)))] sz = A at hD hX hE hA ⊢
  have hS : va_S A s.heap s.heap [] := va_S.rf
  have hl : lv_has ls 4 [(0, .ref h0), (1, .int v1), (2, .ref a)] := hl
  refine lv_aload_n hx hb dL_result_0 rfl (lv_at hl 2 rfl) ?_
  refine lv_iconst (v := nI 0) hx hb dL_result_1 (by decide) ?_
  refine lv_aload_n hx hb dL_result_2 rfl (lv_at hl 0 rfl) ?_
  refine lv_iload_n hx hb dL_result_3 rfl (lv_at hl 1 rfl) ?_
  obtain ⟨x9, suf9, hsp, hx1, hx2, hx3, hx4⟩ := lc_tab htab
  refine xt_call (E := ex g) (C := "LatticeKeys") (own := "LatticeKeysLaw") (ex := "java/lang/IndexOutOfBoundsException") (name := "java/lang/IndexOutOfBoundsException") (As := [.int v1]) (rest := [.int (nI 0), .ref a]) F (x_K_result l htr g _ h0 u v1) (cwV 1 hts (wg_app (wg_c kw_1306 (wg_c kw_1307 (wg_c kw_1308 (wg_c kw_1 wg_n)))) kw_1309) rfl rfl rfl (by decide +kernel) ⟨by decide, by decide⟩) (pr_V (ex_ok g) (q0 := 0) hK hP hD hS hA hX [0] rfl rfl rfl rfl) rfl hl.1 rfl (Nat.le_of_ble_eq_true rfl) dL_result_4 ⟨by decide, by decide⟩ [] x9 suf9 hsp (fun z h => nomatch h) (by simp [covers, hx1, hx2]) (by rw [hx4]; decide) (by rw [hx4]; exact hts _ (wg_t kw_530)) (va_Nw.use rfl hX.2.2.2.2.1.2.1) (fun q9 H hz9 hk9 => ?_)
  rw [hx3]
  replace hS := lc_S hS hz9 hk9
  replace hP := lc_P hP hk9
  refine W.widen (k := 1) (n := 6) (by decide) (by decide) ?_
  refine lv_astore_n (lv' := [(3, .ref q9), (0, .ref h0), (1, .int v1), (2, .ref a)]) hx hb dL_result_12 rfl hl (by decide) rfl (fun ls hl => ?_)
  refine lv_iconst (v := nI 1) hx hb dL_result_13 (by decide) ?_
  exact mc_iret hx hb hr hlk hP hD hS () rfl [1] rfl rfl (by omega) (by omega) dL_result_14
set_option maxHeartbeats 400000 in
set_option maxRecDepth 100000 in
theorem lx_load (l : Launch) (htr : l.stackTraces = false) (g : Gd) (sz : Nat) (h0 : Nat) (u : Nat → Nat) (v1 v2 : Int32) (a : Nat) (f : Nat → Int64)  : Met l y_L_load w_L_load ({ frames := 7, cells := 1, slots := 6, locals := 190 } : Room) (va_Pc [.ref h0, .int v1, .int v2, .ref a] (pr (ex g) g.1 vcl sz [(h0, .inr (0, [.ref (u 0), .int (nI 0), .ref (u 1), .int (nI 0), .ref (u 12), .int (nI 0), .ref (u 2), .ref (u 3), .ref (u 4), .ref (u 13), .ref (u 14)])), (u 2, .inl (g.2.1 3, 3, .inr (.inr (.inr (.inr ((va_up (va_up (va_up (fun _ => none) 0 (some (u 6))) 1 (some (u 7))) 2 (some (u 8))))))))), (u 3, .inl (g.2.1 4, 3, .inr (.inr (.inr (.inr ((va_up (va_up (va_up (fun _ => none) 0 (some (u 9))) 1 (some (u 10))) 2 (some (u 11))))))))), (u 6, .inr (1, [.int (nI 2), .int (nI 3), .int (nI 10), .int (nI 4), .int (nI 800), .int (nI 1632), .int (nI 768), .int (nI 768), .int (nI 1568), .int (nI 1600)])), (u 7, .inr (1, [.int (nI 3), .int (nI 2), .int (nI 10), .int (nI 4), .int (nI 1184), .int (nI 2400), .int (nI 1088), .int (nI 1152), .int (nI 2336), .int (nI 2368)])), (u 8, .inr (1, [.int (nI 4), .int (nI 2), .int (nI 11), .int (nI 5), .int (nI 1568), .int (nI 3168), .int (nI 1568), .int (nI 1536), .int (nI 3104), .int (nI 3136)])), (u 9, .inr (2, [.int (nI 4), .int (nI 4), .int (nI 2), .int (nI 3), .int (nI 39), .int (nI 32), .int (nI 18), .int (nI 131072), .int (nI 44), .int (nI 6), .int (nI 95232), .int (nI 80), .int (nI 78), .int (nI 1312), .int (nI 2560), .int (nI 2336), .int (nI 2420)])), (u 10, .inr (2, [.int (nI 6), .int (nI 5), .int (nI 4), .int (nI 4), .int (nI 49), .int (nI 48), .int (nI 20), .int (nI 524288), .int (nI 16), .int (nI 4), .int (nI 261888), .int (nI 55), .int (nI 196), .int (nI 1952), .int (nI 4032), .int (nI 3248), .int (nI 3309)])), (u 11, .inr (2, [.int (nI 8), .int (nI 7), .int (nI 2), .int (nI 3), .int (nI 60), .int (nI 64), .int (nI 20), .int (nI 524288), .int (nI 16), .int (nI 4), .int (nI 261888), .int (nI 75), .int (nI 120), .int (nI 2592), .int (nI 4896), .int (nI 4544), .int (nI 4627)])), (a, .inl (g.2.1 2, 1, .inr (.inl f)))])) (va_Qi (fun (r : Int32) (u : Unit) => r = nI 1) (po g.1 vcl (va_A [(h0, .inr (0, [.ref (u 0), .int (nI 0), .ref (u 1), .int (nI 0), .ref (u 12), .int (nI 0), .ref (u 2), .ref (u 3), .ref (u 4), .ref (u 13), .ref (u 14)])), (u 2, .inl (g.2.1 3, 3, .inr (.inr (.inr (.inr ((va_up (va_up (va_up (fun _ => none) 0 (some (u 6))) 1 (some (u 7))) 2 (some (u 8))))))))), (u 3, .inl (g.2.1 4, 3, .inr (.inr (.inr (.inr ((va_up (va_up (va_up (fun _ => none) 0 (some (u 9))) 1 (some (u 10))) 2 (some (u 11))))))))), (u 6, .inr (1, [.int (nI 2), .int (nI 3), .int (nI 10), .int (nI 4), .int (nI 800), .int (nI 1632), .int (nI 768), .int (nI 768), .int (nI 1568), .int (nI 1600)])), (u 7, .inr (1, [.int (nI 3), .int (nI 2), .int (nI 10), .int (nI 4), .int (nI 1184), .int (nI 2400), .int (nI 1088), .int (nI 1152), .int (nI 2336), .int (nI 2368)])), (u 8, .inr (1, [.int (nI 4), .int (nI 2), .int (nI 11), .int (nI 5), .int (nI 1568), .int (nI 3168), .int (nI 1568), .int (nI 1536), .int (nI 3104), .int (nI 3136)])), (u 9, .inr (2, [.int (nI 4), .int (nI 4), .int (nI 2), .int (nI 3), .int (nI 39), .int (nI 32), .int (nI 18), .int (nI 131072), .int (nI 44), .int (nI 6), .int (nI 95232), .int (nI 80), .int (nI 78), .int (nI 1312), .int (nI 2560), .int (nI 2336), .int (nI 2420)])), (u 10, .inr (2, [.int (nI 6), .int (nI 5), .int (nI 4), .int (nI 4), .int (nI 49), .int (nI 48), .int (nI 20), .int (nI 524288), .int (nI 16), .int (nI 4), .int (nI 261888), .int (nI 55), .int (nI 196), .int (nI 1952), .int (nI 4032), .int (nI 3248), .int (nI 3309)])), (u 11, .inr (2, [.int (nI 8), .int (nI 7), .int (nI 2), .int (nI 3), .int (nI 60), .int (nI 64), .int (nI 20), .int (nI 524288), .int (nI 16), .int (nI 4), .int (nI 261888), .int (nI 75), .int (nI 120), .int (nI 2592), .int (nI 4896), .int (nI 4544), .int (nI 4627)])), (a, .inl (g.2.1 2, 1, .inr (.inl f)))] sz) (fun (u : Unit) => [(a, .inl (g.2.1 2, 1, .inr (.inl f)))])) (va_A [(h0, .inr (0, [.ref (u 0), .int (nI 0), .ref (u 1), .int (nI 0), .ref (u 12), .int (nI 0), .ref (u 2), .ref (u 3), .ref (u 4), .ref (u 13), .ref (u 14)])), (u 2, .inl (g.2.1 3, 3, .inr (.inr (.inr (.inr ((va_up (va_up (va_up (fun _ => none) 0 (some (u 6))) 1 (some (u 7))) 2 (some (u 8))))))))), (u 3, .inl (g.2.1 4, 3, .inr (.inr (.inr (.inr ((va_up (va_up (va_up (fun _ => none) 0 (some (u 9))) 1 (some (u 10))) 2 (some (u 11))))))))), (u 6, .inr (1, [.int (nI 2), .int (nI 3), .int (nI 10), .int (nI 4), .int (nI 800), .int (nI 1632), .int (nI 768), .int (nI 768), .int (nI 1568), .int (nI 1600)])), (u 7, .inr (1, [.int (nI 3), .int (nI 2), .int (nI 10), .int (nI 4), .int (nI 1184), .int (nI 2400), .int (nI 1088), .int (nI 1152), .int (nI 2336), .int (nI 2368)])), (u 8, .inr (1, [.int (nI 4), .int (nI 2), .int (nI 11), .int (nI 5), .int (nI 1568), .int (nI 3168), .int (nI 1568), .int (nI 1536), .int (nI 3104), .int (nI 3136)])), (u 9, .inr (2, [.int (nI 4), .int (nI 4), .int (nI 2), .int (nI 3), .int (nI 39), .int (nI 32), .int (nI 18), .int (nI 131072), .int (nI 44), .int (nI 6), .int (nI 95232), .int (nI 80), .int (nI 78), .int (nI 1312), .int (nI 2560), .int (nI 2336), .int (nI 2420)])), (u 10, .inr (2, [.int (nI 6), .int (nI 5), .int (nI 4), .int (nI 4), .int (nI 49), .int (nI 48), .int (nI 20), .int (nI 524288), .int (nI 16), .int (nI 4), .int (nI 261888), .int (nI 55), .int (nI 196), .int (nI 1952), .int (nI 4032), .int (nI 3248), .int (nI 3309)])), (u 11, .inr (2, [.int (nI 8), .int (nI 7), .int (nI 2), .int (nI 3), .int (nI 60), .int (nI 64), .int (nI 20), .int (nI 524288), .int (nI 16), .int (nI 4), .int (nI 261888), .int (nI 75), .int (nI 120), .int (nI 2592), .int (nI 4896), .int (nI 4544), .int (nI 4627)])), (a, .inl (g.2.1 2, 1, .inr (.inl f)))] sz)) 1 6 (va_A [(h0, .inr (0, [.ref (u 0), .int (nI 0), .ref (u 1), .int (nI 0), .ref (u 12), .int (nI 0), .ref (u 2), .ref (u 3), .ref (u 4), .ref (u 13), .ref (u 14)])), (u 2, .inl (g.2.1 3, 3, .inr (.inr (.inr (.inr ((va_up (va_up (va_up (fun _ => none) 0 (some (u 6))) 1 (some (u 7))) 2 (some (u 8))))))))), (u 3, .inl (g.2.1 4, 3, .inr (.inr (.inr (.inr ((va_up (va_up (va_up (fun _ => none) 0 (some (u 9))) 1 (some (u 10))) 2 (some (u 11))))))))), (u 6, .inr (1, [.int (nI 2), .int (nI 3), .int (nI 10), .int (nI 4), .int (nI 800), .int (nI 1632), .int (nI 768), .int (nI 768), .int (nI 1568), .int (nI 1600)])), (u 7, .inr (1, [.int (nI 3), .int (nI 2), .int (nI 10), .int (nI 4), .int (nI 1184), .int (nI 2400), .int (nI 1088), .int (nI 1152), .int (nI 2336), .int (nI 2368)])), (u 8, .inr (1, [.int (nI 4), .int (nI 2), .int (nI 11), .int (nI 5), .int (nI 1568), .int (nI 3168), .int (nI 1568), .int (nI 1536), .int (nI 3104), .int (nI 3136)])), (u 9, .inr (2, [.int (nI 4), .int (nI 4), .int (nI 2), .int (nI 3), .int (nI 39), .int (nI 32), .int (nI 18), .int (nI 131072), .int (nI 44), .int (nI 6), .int (nI 95232), .int (nI 80), .int (nI 78), .int (nI 1312), .int (nI 2560), .int (nI 2336), .int (nI 2420)])), (u 10, .inr (2, [.int (nI 6), .int (nI 5), .int (nI 4), .int (nI 4), .int (nI 49), .int (nI 48), .int (nI 20), .int (nI 524288), .int (nI 16), .int (nI 4), .int (nI 261888), .int (nI 55), .int (nI 196), .int (nI 1952), .int (nI 4032), .int (nI 3248), .int (nI 3309)])), (u 11, .inr (2, [.int (nI 8), .int (nI 7), .int (nI 2), .int (nI 3), .int (nI 60), .int (nI 64), .int (nI 20), .int (nI 524288), .int (nI 16), .int (nI 4), .int (nI 261888), .int (nI 75), .int (nI 120), .int (nI 2592), .int (nI 4896), .int (nI 4544), .int (nI 4627)])), (a, .inl (g.2.1 2, 1, .inr (.inl f)))] sz) := by
  refine lc_entry (cc := c_L_load) (maxL := 5) (ret := (some .int)) (hh := [(0, 10, 13, 19), (0, 10, 17, 38), (0, 10, 21, 13)]) (by decide) rfl (Nat.le_of_ble_eq_true rfl) ?_
  intro p e s m args below meth c ls F hr hlk htab hsz hP hD hX hA hl
  obtain ⟨hx, hb, hml, hown, hts⟩ := id F
  have hE := hX.1
  have hK := hE.1
  generalize va_A [(h0, .inr (0, [.ref (u 0), .int (nI 0), .ref (u 1), .int (nI 0), .ref (u 12), .int (nI 0), .ref (u 2), .ref (u 3), .ref (u 4), .ref (u 13), .ref (u 14)])), (u 2, .inl (g.2.1 3, 3, .inr (.inr (.inr (.inr ((va_up (va_up (va_up (fun _ => none) 0 (some (u 6))) 1 (some (u 7))) 2 (some (u 8))))))))), (u 3, .inl (g.2.1 4, 3, .inr (.inr (.inr (.inr ((va_up (va_up (va_up (fun _ => none) 0 (some (u 9))) 1 (some (u 10))) 2 (some (u 11))))))))), (u 6, .inr (1, [.int (nI 2), .int (nI 3), .int (nI 10), .int (nI 4), .int (nI 800), .int (nI 1632), .int (nI 768), .int (nI 768), .int (nI 1568), .int (nI 1600)])), (u 7, .inr (1, [.int (nI 3), .int (nI 2), .int (nI 10), .int (nI 4), .int (nI 1184), .int (nI 2400), .int (nI 1088), .int (nI 1152), .int (nI 2336), .int (nI 2368)])), (u 8, .inr (1, [.int (nI 4), .int (nI 2), .int (nI 11), .int (nI 5), .int (nI 1568), .int (nI 3168), .int (nI 1568), .int (nI 1536), .int (nI 3104), .int (nI 3136)])), (u 9, .inr (2, [.int (nI 4), .int (nI 4), .int (nI 2), .int (nI 3), .int (nI 39), .int (nI 32), .int (nI 18), .int (nI 131072), .int (nI 44), .int (nI 6), .int (nI 95232), .int (nI 80), .int (nI 78), .int (nI 1312), .int (nI 2560), .int (nI 2336), .int (nI 2420)])), (u 10, .inr (2, [.int (nI 6), .int (nI 5), .int (nI 4), .int (nI 4), .int (nI 49), .int (nI 48), .int (nI 20), .int (nI 524288), .int (nI 16), .int (nI 4), .int (nI 261888), .int (nI 55), .int (nI 196), .int (nI 1952), .int (nI 4032), .int (nI 3248), .int (nI 3309)])), (u 11, .inr (2, [.int (nI 8), .int (nI 7), .int (nI 2), .int (nI 3), .int (nI 60), .int (nI 64), .int (nI 20), .int (nI 524288), .int (nI 16), .int (nI 4), .int (nI 261888), .int (nI 75), .int (nI 120), .int (nI 2592), .int (nI 4896), .int (nI 4544), .int (nI 4627)])), (a, .inl (g.2.1 2, 1, .inr (.inl f)))] sz = A at hD hX hE hA ⊢
  have hS : va_S A s.heap s.heap [] := va_S.rf
  have hl : lv_has ls 5 [(0, .ref h0), (1, .int v1), (2, .int v2), (3, .ref a)] := hl
  refine lv_aload_n hx hb dL_load_0 rfl (lv_at hl 3 rfl) ?_
  refine lv_iconst (v := nI 0) hx hb dL_load_1 (by decide) ?_
  refine lv_aload_n hx hb dL_load_2 rfl (lv_at hl 0 rfl) ?_
  refine lv_iload_n hx hb dL_load_3 rfl (lv_at hl 1 rfl) ?_
  refine lv_iload_n hx hb dL_load_4 rfl (lv_at hl 2 rfl) ?_
  obtain ⟨x9, suf9, hsp, hx1, hx2, hx3, hx4⟩ := lc_tab htab
  refine xt_call (E := ex g) (C := "LatticeKeys") (own := "LatticeKeysLaw") (ex := "java/lang/IllegalArgumentException") (name := "java/lang/IllegalArgumentException") (As := [.int v1, .int v2]) (rest := [.int (nI 0), .ref a]) F (x_K_load l htr g _ h0 u v1 v2) (cwV 2 hts (wg_app (wg_c kw_768 (wg_c kw_769 (wg_c kw_770 (wg_c kw_1 wg_n)))) kw_771) rfl rfl rfl (by decide +kernel) ⟨by decide, by decide⟩) (pr_V (ex_ok g) (q0 := 0) hK hP hD hS hA hX [0, 1, 2, 3, 4, 5, 6, 7, 8] rfl rfl rfl rfl) rfl hl.1 rfl (Nat.le_of_ble_eq_true rfl) dL_load_5 ⟨by decide, by decide⟩ [] x9 suf9 hsp (fun z h => nomatch h) (by simp [covers, hx1, hx2]) (by rw [hx4]; decide) (by rw [hx4]; exact hts _ (wg_t kw_496)) (va_Nw.use rfl hX.2.2.2.2.1.1) (fun q9 H hz9 hk9 => ?_)
  rw [hx3]
  replace hS := lc_S hS hz9 hk9
  replace hP := lc_P hP hk9
  refine W.widen (k := 1) (n := 6) (by decide) (by decide) ?_
  refine lv_astore (lv' := [(4, .ref q9), (0, .ref h0), (1, .int v1), (2, .int v2), (3, .ref a)]) hx hb dL_load_13 hl (by decide) rfl (fun ls hl => ?_)
  refine lv_iconst (v := nI 1) hx hb dL_load_15 (by decide) ?_
  exact mc_iret hx hb hr hlk hP hD hS () rfl [9] rfl rfl (by omega) (by omega) dL_load_16
