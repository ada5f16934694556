set_option linter.all false
abbrev c_L_part : ByteArray := method_9_code
abbrev y_L_part : MethodName := ⟨"LatticeKeysLaw", "part", "(LLatticeKeys;IZI[J)I"⟩
abbrev w_L_part : List Cond := Cond.codeWith y_L_part c_L_part 6 (some .int) [(0, 12, 15, 44), (0, 12, 19, 29)] :: WG
theorem dL_part_0 : decode c_L_part 0 = .ok (.aload 4, 2) := by decide +kernel
theorem dL_part_2 : decode c_L_part 2 = .ok (.iconst 0, 1) := by decide +kernel
theorem dL_part_3 : decode c_L_part 3 = .ok (.aload_n 0, 1) := by decide +kernel
theorem dL_part_4 : decode c_L_part 4 = .ok (.iload_n 1, 1) := by decide +kernel
theorem dL_part_5 : decode c_L_part 5 = .ok (.iload_n 2, 1) := by decide +kernel
theorem dL_part_6 : decode c_L_part 6 = .ok (.iload_n 3, 1) := by decide +kernel
theorem dL_part_7 : decode c_L_part 7 = .ok (.invokevirtual 40, 3) := by decide +kernel
theorem dL_part_10 : decode c_L_part 10 = .ok (.i2l, 1) := by decide +kernel
theorem dL_part_11 : decode c_L_part 11 = .ok (.lastore, 1) := by decide +kernel
theorem dL_part_12 : decode c_L_part 12 = .ok (.goto 11, 3) := by decide +kernel
theorem dL_part_15 : decode c_L_part 15 = .ok (.astore 5, 2) := by decide +kernel
theorem dL_part_17 : decode c_L_part 17 = .ok (.iconst 1, 1) := by decide +kernel
theorem dL_part_18 : decode c_L_part 18 = .ok (.ireturn, 1) := by decide +kernel
theorem dL_part_19 : decode c_L_part 19 = .ok (.astore 5, 2) := by decide +kernel
theorem dL_part_21 : decode c_L_part 21 = .ok (.iconst 2, 1) := by decide +kernel
theorem dL_part_22 : decode c_L_part 22 = .ok (.ireturn, 1) := by decide +kernel
theorem dL_part_23 : decode c_L_part 23 = .ok (.iconst 0, 1) := by decide +kernel
theorem dL_part_24 : decode c_L_part 24 = .ok (.ireturn, 1) := by decide +kernel
abbrev c_L_show : ByteArray := method_10_code
abbrev y_L_show : MethodName := ⟨"LatticeKeysLaw", "show", "(LLatticeKeys;IZ[J)I"⟩
abbrev w_L_show : List Cond := Cond.codeWith y_L_show c_L_show 5 (some .int) [(0, 10, 13, 44)] :: WG
theorem dL_show_0 : decode c_L_show 0 = .ok (.aload_n 3, 1) := by decide +kernel
theorem dL_show_1 : decode c_L_show 1 = .ok (.iconst 0, 1) := by decide +kernel
theorem dL_show_2 : decode c_L_show 2 = .ok (.aload_n 0, 1) := by decide +kernel
theorem dL_show_3 : decode c_L_show 3 = .ok (.iload_n 1, 1) := by decide +kernel
theorem dL_show_4 : decode c_L_show 4 = .ok (.iload_n 2, 1) := by decide +kernel
theorem dL_show_5 : decode c_L_show 5 = .ok (.invokevirtual 46, 3) := by decide +kernel
theorem dL_show_8 : decode c_L_show 8 = .ok (.i2l, 1) := by decide +kernel
theorem dL_show_9 : decode c_L_show 9 = .ok (.lastore, 1) := by decide +kernel
theorem dL_show_10 : decode c_L_show 10 = .ok (.goto 7, 3) := by decide +kernel
theorem dL_show_13 : decode c_L_show 13 = .ok (.astore 4, 2) := by decide +kernel
theorem dL_show_15 : decode c_L_show 15 = .ok (.iconst 1, 1) := by decide +kernel
theorem dL_show_16 : decode c_L_show 16 = .ok (.ireturn, 1) := by decide +kernel
theorem dL_show_17 : decode c_L_show 17 = .ok (.iconst 0, 1) := by decide +kernel
theorem dL_show_18 : decode c_L_show 18 = .ok (.ireturn, 1) := by decide +kernel
abbrev c_L_told : ByteArray := method_11_code
abbrev y_L_told : MethodName := ⟨"LatticeKeysLaw", "told", "(LLatticeKeys;II[J)I"⟩
abbrev w_L_told : List Cond := Cond.codeWith y_L_told c_L_told 5 (some .int) [(0, 10, 13, 44), (0, 10, 17, 19)] :: WG
theorem dL_told_0 : decode c_L_told 0 = .ok (.aload_n 3, 1) := by decide +kernel
theorem dL_told_1 : decode c_L_told 1 = .ok (.iconst 0, 1) := by decide +kernel
theorem dL_told_2 : decode c_L_told 2 = .ok (.aload_n 0, 1) := by decide +kernel
theorem dL_told_3 : decode c_L_told 3 = .ok (.iload_n 1, 1) := by decide +kernel
theorem dL_told_4 : decode c_L_told 4 = .ok (.iload_n 2, 1) := by decide +kernel
theorem dL_told_5 : decode c_L_told 5 = .ok (.invokevirtual 49, 3) := by decide +kernel
theorem dL_told_8 : decode c_L_told 8 = .ok (.i2l, 1) := by decide +kernel
theorem dL_told_9 : decode c_L_told 9 = .ok (.lastore, 1) := by decide +kernel
theorem dL_told_10 : decode c_L_told 10 = .ok (.goto 11, 3) := by decide +kernel
theorem dL_told_13 : decode c_L_told 13 = .ok (.astore 4, 2) := by decide +kernel
theorem dL_told_15 : decode c_L_told 15 = .ok (.iconst 1, 1) := by decide +kernel
theorem dL_told_16 : decode c_L_told 16 = .ok (.ireturn, 1) := by decide +kernel
theorem dL_told_17 : decode c_L_told 17 = .ok (.astore 4, 2) := by decide +kernel
theorem dL_told_19 : decode c_L_told 19 = .ok (.iconst 2, 1) := by decide +kernel
theorem dL_told_20 : decode c_L_told 20 = .ok (.ireturn, 1) := by decide +kernel
theorem dL_told_21 : decode c_L_told 21 = .ok (.iconst 0, 1) := by decide +kernel
theorem dL_told_22 : decode c_L_told 22 = .ok (.ireturn, 1) := by decide +kernel
abbrev c_L_end : ByteArray := method_4_code
abbrev y_L_end : MethodName := ⟨"LatticeKeysLaw", "end", "(LLatticeKeys;I[J)I"⟩
abbrev w_L_end : List Cond := Cond.codeWith y_L_end c_L_end 4 (some .int) [(0, 9, 12, 19)] :: WG
theorem dL_end_0 : decode c_L_end 0 = .ok (.aload_n 2, 1) := by decide +kernel
theorem dL_end_1 : decode c_L_end 1 = .ok (.iconst 0, 1) := by decide +kernel
theorem dL_end_2 : decode c_L_end 2 = .ok (.aload_n 0, 1) := by decide +kernel
theorem dL_end_3 : decode c_L_end 3 = .ok (.iload_n 1, 1) := by decide +kernel
theorem dL_end_4 : decode c_L_end 4 = .ok (.invokevirtual 15, 3) := by decide +kernel
theorem dL_end_7 : decode c_L_end 7 = .ok (.i2l, 1) := by decide +kernel
theorem dL_end_8 : decode c_L_end 8 = .ok (.lastore, 1) := by decide +kernel
theorem dL_end_9 : decode c_L_end 9 = .ok (.goto 6, 3) := by decide +kernel
theorem dL_end_12 : decode c_L_end 12 = .ok (.astore_n 3, 1) := by decide +kernel
theorem dL_end_13 : decode c_L_end 13 = .ok (.iconst 1, 1) := by decide +kernel
theorem dL_end_14 : decode c_L_end 14 = .ok (.ireturn, 1) := by decide +kernel
theorem dL_end_15 : decode c_L_end 15 = .ok (.iconst 0, 1) := by decide +kernel
theorem dL_end_16 : decode c_L_end 16 = .ok (.ireturn, 1) := by decide +kernel
abbrev c_L_again : ByteArray := method_5_code
abbrev y_L_again : MethodName := ⟨"LatticeKeysLaw", "again", "(LLatticeKeys;[J)I"⟩
abbrev w_L_again : List Cond := Cond.codeWith y_L_again c_L_again 3 (some .int) [(0, 8, 11, 13)] :: WG
theorem dL_again_0 : decode c_L_again 0 = .ok (.aload_n 1, 1) := by decide +kernel
theorem dL_again_1 : decode c_L_again 1 = .ok (.iconst 0, 1) := by decide +kernel
theorem dL_again_2 : decode c_L_again 2 = .ok (.aload_n 0, 1) := by decide +kernel
theorem dL_again_3 : decode c_L_again 3 = .ok (.invokevirtual 21, 3) := by decide +kernel
theorem dL_again_6 : decode c_L_again 6 = .ok (.i2l, 1) := by decide +kernel
theorem dL_again_7 : decode c_L_again 7 = .ok (.lastore, 1) := by decide +kernel
theorem dL_again_8 : decode c_L_again 8 = .ok (.goto 6, 3) := by decide +kernel
theorem dL_again_11 : decode c_L_again 11 = .ok (.astore_n 2, 1) := by decide +kernel
theorem dL_again_12 : decode c_L_again 12 = .ok (.iconst 1, 1) := by decide +kernel
theorem dL_again_13 : decode c_L_again 13 = .ok (.ireturn, 1) := by decide +kernel
theorem dL_again_14 : decode c_L_again 14 = .ok (.iconst 0, 1) := by decide +kernel
theorem dL_again_15 : decode c_L_again 15 = .ok (.ireturn, 1) := by decide +kernel
abbrev c_L_alter : ByteArray := method_6_code
abbrev y_L_alter : MethodName := ⟨"LatticeKeysLaw", "alter", "(LLatticeKeys;II[J)I"⟩
abbrev w_L_alter : List Cond := Cond.codeWith y_L_alter c_L_alter 5 (some .int) [(0, 10, 13, 29)] :: WG
theorem dL_alter_0 : decode c_L_alter 0 = .ok (.aload_n 3, 1) := by decide +kernel
theorem dL_alter_1 : decode c_L_alter 1 = .ok (.iconst 0, 1) := by decide +kernel
theorem dL_alter_2 : decode c_L_alter 2 = .ok (.aload_n 0, 1) := by decide +kernel
theorem dL_alter_3 : decode c_L_alter 3 = .ok (.iload_n 1, 1) := by decide +kernel
theorem dL_alter_4 : decode c_L_alter 4 = .ok (.iload_n 2, 1) := by decide +kernel
theorem dL_alter_5 : decode c_L_alter 5 = .ok (.invokevirtual 25, 3) := by decide +kernel
theorem dL_alter_8 : decode c_L_alter 8 = .ok (.i2l, 1) := by decide +kernel
theorem dL_alter_9 : decode c_L_alter 9 = .ok (.lastore, 1) := by decide +kernel
theorem dL_alter_10 : decode c_L_alter 10 = .ok (.goto 7, 3) := by decide +kernel
theorem dL_alter_13 : decode c_L_alter 13 = .ok (.astore 4, 2) := by decide +kernel
theorem dL_alter_15 : decode c_L_alter 15 = .ok (.iconst 1, 1) := by decide +kernel
theorem dL_alter_16 : decode c_L_alter 16 = .ok (.ireturn, 1) := by decide +kernel
theorem dL_alter_17 : decode c_L_alter 17 = .ok (.iconst 0, 1) := by decide +kernel
theorem dL_alter_18 : decode c_L_alter 18 = .ok (.ireturn, 1) := by decide +kernel
abbrev c_L_feed : ByteArray := method_3_code
abbrev y_L_feed : MethodName := ⟨"LatticeKeysLaw", "feed", "(LLatticeKeys;IIIII[J)I"⟩
abbrev w_L_feed : List Cond := Cond.codeWith y_L_feed c_L_feed 8 (some .int) [(0, 16, 19, 13)] :: WG
theorem dL_feed_0 : decode c_L_feed 0 = .ok (.aload 6, 2) := by decide +kernel
theorem dL_feed_2 : decode c_L_feed 2 = .ok (.iconst 0, 1) := by decide +kernel
theorem dL_feed_3 : decode c_L_feed 3 = .ok (.aload_n 0, 1) := by decide +kernel
theorem dL_feed_4 : decode c_L_feed 4 = .ok (.iload_n 1, 1) := by decide +kernel
theorem dL_feed_5 : decode c_L_feed 5 = .ok (.iload_n 2, 1) := by decide +kernel
theorem dL_feed_6 : decode c_L_feed 6 = .ok (.iload_n 3, 1) := by decide +kernel
theorem dL_feed_7 : decode c_L_feed 7 = .ok (.iload 4, 2) := by decide +kernel
theorem dL_feed_9 : decode c_L_feed 9 = .ok (.iload 5, 2) := by decide +kernel
theorem dL_feed_11 : decode c_L_feed 11 = .ok (.invokevirtual 7, 3) := by decide +kernel
theorem dL_feed_14 : decode c_L_feed 14 = .ok (.i2l, 1) := by decide +kernel
theorem dL_feed_15 : decode c_L_feed 15 = .ok (.lastore, 1) := by decide +kernel
theorem dL_feed_16 : decode c_L_feed 16 = .ok (.goto 7, 3) := by decide +kernel
theorem dL_feed_19 : decode c_L_feed 19 = .ok (.astore 7, 2) := by decide +kernel
theorem dL_feed_21 : decode c_L_feed 21 = .ok (.iconst 1, 1) := by decide +kernel
theorem dL_feed_22 : decode c_L_feed 22 = .ok (.ireturn, 1) := by decide +kernel
theorem dL_feed_23 : decode c_L_feed 23 = .ok (.iconst 0, 1) := by decide +kernel
theorem dL_feed_24 : decode c_L_feed 24 = .ok (.ireturn, 1) := by decide +kernel
abbrev c_L_hash : ByteArray := method_16_code
abbrev y_L_hash : MethodName := ⟨"LatticeKeysLaw", "hash", "(LLatticeKeys;II[J)I"⟩
abbrev w_L_hash : List Cond := Cond.codeWith y_L_hash c_L_hash 5 (some .int) [(0, 10, 13, 19)] :: WG
theorem dL_hash_0 : decode c_L_hash 0 = .ok (.aload_n 3, 1) := by decide +kernel
theorem dL_hash_1 : decode c_L_hash 1 = .ok (.iconst 0, 1) := by decide +kernel
theorem dL_hash_2 : decode c_L_hash 2 = .ok (.aload_n 0, 1) := by decide +kernel
theorem dL_hash_3 : decode c_L_hash 3 = .ok (.iload_n 1, 1) := by decide +kernel
theorem dL_hash_4 : decode c_L_hash 4 = .ok (.iload_n 2, 1) := by decide +kernel
theorem dL_hash_5 : decode c_L_hash 5 = .ok (.invokevirtual 65, 3) := by decide +kernel
theorem dL_hash_8 : decode c_L_hash 8 = .ok (.i2l, 1) := by decide +kernel
theorem dL_hash_9 : decode c_L_hash 9 = .ok (.lastore, 1) := by decide +kernel
theorem dL_hash_10 : decode c_L_hash 10 = .ok (.goto 7, 3) := by decide +kernel
theorem dL_hash_13 : decode c_L_hash 13 = .ok (.astore 4, 2) := by decide +kernel
theorem dL_hash_15 : decode c_L_hash 15 = .ok (.iconst 1, 1) := by decide +kernel
theorem dL_hash_16 : decode c_L_hash 16 = .ok (.ireturn, 1) := by decide +kernel
theorem dL_hash_17 : decode c_L_hash 17 = .ok (.iconst 0, 1) := by decide +kernel
theorem dL_hash_18 : decode c_L_hash 18 = .ok (.ireturn, 1) := by decide +kernel
abbrev c_L_seal : ByteArray := method_12_code
abbrev y_L_seal : MethodName := ⟨"LatticeKeysLaw", "seal", "(LLatticeKeys;I[J)I"⟩
abbrev w_L_seal : List Cond := Cond.codeWith y_L_seal c_L_seal 4 (some .int) [(0, 9, 12, 44), (0, 9, 15, 19)] :: WG
theorem dL_seal_0 : decode c_L_seal 0 = .ok (.aload_n 2, 1) := by decide +kernel
theorem dL_seal_1 : decode c_L_seal 1 = .ok (.iconst 0, 1) := by decide +kernel
theorem dL_seal_2 : decode c_L_seal 2 = .ok (.aload_n 0, 1) := by decide +kernel
theorem dL_seal_3 : decode c_L_seal 3 = .ok (.iload_n 1, 1) := by decide +kernel
theorem dL_seal_4 : decode c_L_seal 4 = .ok (.invokevirtual 52, 3) := by decide +kernel
theorem dL_seal_7 : decode c_L_seal 7 = .ok (.i2l, 1) := by decide +kernel
theorem dL_seal_8 : decode c_L_seal 8 = .ok (.lastore, 1) := by decide +kernel
theorem dL_seal_9 : decode c_L_seal 9 = .ok (.goto 9, 3) := by decide +kernel
theorem dL_seal_12 : decode c_L_seal 12 = .ok (.astore_n 3, 1) := by decide +kernel
theorem dL_seal_13 : decode c_L_seal 13 = .ok (.iconst 1, 1) := by decide +kernel
theorem dL_seal_14 : decode c_L_seal 14 = .ok (.ireturn, 1) := by decide +kernel
theorem dL_seal_15 : decode c_L_seal 15 = .ok (.astore_n 3, 1) := by decide +kernel
theorem dL_seal_16 : decode c_L_seal 16 = .ok (.iconst 2, 1) := by decide +kernel
theorem dL_seal_17 : decode c_L_seal 17 = .ok (.ireturn, 1) := by decide +kernel
theorem dL_seal_18 : decode c_L_seal 18 = .ok (.iconst 0, 1) := by decide +kernel
theorem dL_seal_19 : decode c_L_seal 19 = .ok (.ireturn, 1) := by decide +kernel
abbrev c_L_open : ByteArray := method_13_code
abbrev y_L_open : MethodName := ⟨"LatticeKeysLaw", "open", "(LLatticeKeys;I[J)I"⟩
abbrev w_L_open : List Cond := Cond.codeWith y_L_open c_L_open 4 (some .int) [(0, 9, 12, 44), (0, 9, 15, 19)] :: WG
theorem dL_open_0 : decode c_L_open 0 = .ok (.aload_n 2, 1) := by decide +kernel
theorem dL_open_1 : decode c_L_open 1 = .ok (.iconst 0, 1) := by decide +kernel
theorem dL_open_2 : decode c_L_open 2 = .ok (.aload_n 0, 1) := by decide +kernel
theorem dL_open_3 : decode c_L_open 3 = .ok (.iload_n 1, 1) := by decide +kernel
theorem dL_open_4 : decode c_L_open 4 = .ok (.invokevirtual 55, 3) := by decide +kernel
theorem dL_open_7 : decode c_L_open 7 = .ok (.i2l, 1) := by decide +kernel
theorem dL_open_8 : decode c_L_open 8 = .ok (.lastore, 1) := by decide +kernel
theorem dL_open_9 : decode c_L_open 9 = .ok (.goto 9, 3) := by decide +kernel
theorem dL_open_12 : decode c_L_open 12 = .ok (.astore_n 3, 1) := by decide +kernel
theorem dL_open_13 : decode c_L_open 13 = .ok (.iconst 1, 1) := by decide +kernel
theorem dL_open_14 : decode c_L_open 14 = .ok (.ireturn, 1) := by decide +kernel
theorem dL_open_15 : decode c_L_open 15 = .ok (.astore_n 3, 1) := by decide +kernel
theorem dL_open_16 : decode c_L_open 16 = .ok (.iconst 2, 1) := by decide +kernel
theorem dL_open_17 : decode c_L_open 17 = .ok (.ireturn, 1) := by decide +kernel
theorem dL_open_18 : decode c_L_open 18 = .ok (.iconst 0, 1) := by decide +kernel
theorem dL_open_19 : decode c_L_open 19 = .ok (.ireturn, 1) := by decide +kernel
abbrev c_L_sign : ByteArray := method_14_code
abbrev y_L_sign : MethodName := ⟨"LatticeKeysLaw", "sign", "(LLatticeKeys;II[J)I"⟩
abbrev w_L_sign : List Cond := Cond.codeWith y_L_sign c_L_sign 5 (some .int) [(0, 10, 13, 44), (0, 10, 17, 19), (0, 10, 21, 13)] :: WG
theorem dL_sign_0 : decode c_L_sign 0 = .ok (.aload_n 3, 1) := by decide +kernel
theorem dL_sign_1 : decode c_L_sign 1 = .ok (.iconst 0, 1) := by decide +kernel
theorem dL_sign_2 : decode c_L_sign 2 = .ok (.aload_n 0, 1) := by decide +kernel
theorem dL_sign_3 : decode c_L_sign 3 = .ok (.iload_n 1, 1) := by decide +kernel
theorem dL_sign_4 : decode c_L_sign 4 = .ok (.iload_n 2, 1) := by decide +kernel
theorem dL_sign_5 : decode c_L_sign 5 = .ok (.invokevirtual 58, 3) := by decide +kernel
theorem dL_sign_8 : decode c_L_sign 8 = .ok (.i2l, 1) := by decide +kernel
theorem dL_sign_9 : decode c_L_sign 9 = .ok (.lastore, 1) := by decide +kernel
theorem dL_sign_10 : decode c_L_sign 10 = .ok (.goto 15, 3) := by decide +kernel
theorem dL_sign_13 : decode c_L_sign 13 = .ok (.astore 4, 2) := by decide +kernel
theorem dL_sign_15 : decode c_L_sign 15 = .ok (.iconst 1, 1) := by decide +kernel
theorem dL_sign_16 : decode c_L_sign 16 = .ok (.ireturn, 1) := by decide +kernel
theorem dL_sign_17 : decode c_L_sign 17 = .ok (.astore 4, 2) := by decide +kernel
theorem dL_sign_19 : decode c_L_sign 19 = .ok (.iconst 2, 1) := by decide +kernel
theorem dL_sign_20 : decode c_L_sign 20 = .ok (.ireturn, 1) := by decide +kernel
theorem dL_sign_21 : decode c_L_sign 21 = .ok (.astore 4, 2) := by decide +kernel
theorem dL_sign_23 : decode c_L_sign 23 = .ok (.iconst 3, 1) := by decide +kernel
theorem dL_sign_24 : decode c_L_sign 24 = .ok (.ireturn, 1) := by decide +kernel
theorem dL_sign_25 : decode c_L_sign 25 = .ok (.iconst 0, 1) := by decide +kernel
theorem dL_sign_26 : decode c_L_sign 26 = .ok (.ireturn, 1) := by decide +kernel
abbrev c_L_result : ByteArray := method_17_code
abbrev y_L_result : MethodName := ⟨"LatticeKeysLaw", "result", "(LLatticeKeys;I[J)I"⟩
abbrev w_L_result : List Cond := Cond.codeWith y_L_result c_L_result 4 (some .int) [(0, 9, 12, 29)] :: WG
theorem dL_result_0 : decode c_L_result 0 = .ok (.aload_n 2, 1) := by decide +kernel
theorem dL_result_1 : decode c_L_result 1 = .ok (.iconst 0, 1) := by decide +kernel
theorem dL_result_2 : decode c_L_result 2 = .ok (.aload_n 0, 1) := by decide +kernel
theorem dL_result_3 : decode c_L_result 3 = .ok (.iload_n 1, 1) := by decide +kernel
theorem dL_result_4 : decode c_L_result 4 = .ok (.invokevirtual 68, 3) := by decide +kernel
theorem dL_result_7 : decode c_L_result 7 = .ok (.i2l, 1) := by decide +kernel
theorem dL_result_8 : decode c_L_result 8 = .ok (.lastore, 1) := by decide +kernel
theorem dL_result_9 : decode c_L_result 9 = .ok (.goto 6, 3) := by decide +kernel
theorem dL_result_12 : decode c_L_result 12 = .ok (.astore_n 3, 1) := by decide +kernel
theorem dL_result_13 : decode c_L_result 13 = .ok (.iconst 1, 1) := by decide +kernel
theorem dL_result_14 : decode c_L_result 14 = .ok (.ireturn, 1) := by decide +kernel
theorem dL_result_15 : decode c_L_result 15 = .ok (.iconst 0, 1) := by decide +kernel
theorem dL_result_16 : decode c_L_result 16 = .ok (.ireturn, 1) := by decide +kernel
theorem outN {f : Nat → Int64} {x y : Int64} (h : x = y) : vp_updL f (nI 0).toNatClampNeg x 0 = y := by
  unfold vp_updL
  rw [if_pos (show (0 : Nat) = (nI 0).toNatClampNeg by decide)]
  exact h
set_option maxHeartbeats 2000000 in
theorem ln_part (l : Launch) (htr : l.stackTraces = false) (g : Gd) (sz : Nat) (T : TyN) (s : Sto) (pl : va_W) (hO : okn g T s pl) (hU : inj T) (h0 : Nat) (v : Int32) (sc : Int32) (v3 : Int32) (a : Nat) (f : Nat → Int64) (tl al pn : Nat) (k_h0 : T h0 = some 0) (e_tl : s.1 0 1 = nI tl) (e_al : s.1 0 3 = nI al) (e_pn : s.1 0 5 = nI pn) (h1 : tl ≤ 16384) (h2 : al ≤ 8192) (h3 : pn ≤ 8) : Met l y_L_part w_L_part ({ frames := 7, cells := 1, slots := 6, locals := 114 } : Room) (va_Pc [.ref h0, .int v, .int sc, .int v3, .ref a] (pr (ex g) g.1 vcl sz ([(a, .inl (g.2.1 2, 1, .inr (.inl f)))] ++ pl))) (va_Qi (fun (r : Int32) (u : ((Int32 × Int32 × Sto) × (Nat → Int64)) × va_W) => (u.1.1 = F_K_part v sc v3 s ∧ r = u.1.1.1 ∧ frm M_K_part s u.1.1.2.2 ∧ (u.1.1.1 = nI 0 → u.1.2 0 = u.1.1.2.1.toInt64) ∧ u.1.1.2.2.1 0 5 = nI pn) ∧ okn g T u.1.1.2.2 u.2) (po g.1 vcl (va_A ([(a, .inl (g.2.1 2, 1, .inr (.inl f)))] ++ pl) sz) (fun (u : ((Int32 × Int32 × Sto) × (Nat → Int64)) × va_W) => [(a, .inl (g.2.1 2, 1, .inr (.inl u.1.2)))] ++ u.2)) (va_A ([(a, .inl (g.2.1 2, 1, .inr (.inl f)))] ++ pl) sz)) 1 6 (va_A ([(a, .inl (g.2.1 2, 1, .inr (.inl f)))] ++ pl) sz) := by
  refine lc_entry (cc := c_L_part) (maxL := 6) (ret := (some .int)) (hh := [(0, 12, 15, 44), (0, 12, 19, 29)]) (by decide) rfl (Nat.le_of_ble_eq_true rfl) ?_
  intro p e s0 m args below meth c ls F hr hlk htab hsz hP hD hX hA hl
  obtain ⟨hx, hb, hml, hown, hts⟩ := id F
  have hE := hX.1
  have hK := hE.1
  generalize va_A ([(a, .inl (g.2.1 2, 1, .inr (.inl f)))] ++ pl) sz = A at hD hX hE hA ⊢
  have hS : va_S A s0.heap s0.heap [] := va_S.rf
  have hl : lv_has ls 6 [(0, .ref h0), (1, .int v), (2, .int sc), (3, .int v3), (4, .ref a)] := hl
  refine lv_aload hx hb dL_part_0 (lv_at hl 4 rfl) ?_
  refine lv_iconst (v := nI 0) hx hb dL_part_2 (by decide) ?_
  refine lv_aload_n hx hb dL_part_3 rfl (lv_at hl 0 rfl) ?_
  refine lv_iload_n hx hb dL_part_4 rfl (lv_at hl 1 rfl) ?_
  refine lv_iload_n hx hb dL_part_5 rfl (lv_at hl 2 rfl) ?_
  refine lv_iload_n hx hb dL_part_6 rfl (lv_at hl 3 rfl) ?_
  refine et_i (cx := []) (wr := [(a, .inl (g.2.1 2, 1, .inr (.inl f)))]) (own := "LatticeKeysLaw") (C := "LatticeKeys") (As := [.int v, .int sc, .int v3]) (rest := [.int (nI 0), .ref a]) hP hD hS hA [] [0] rfl rfl rfl (by decide) F (N_K_part l htr g _ T s pl hO hU h0 v sc v3 tl al pn k_h0 e_tl e_al e_pn h1 h2 h3) (cwV 3 hts (wg_app (wg_c kw_1052 (wg_c kw_1053 (wg_c kw_1054 (wg_c kw_1 wg_n)))) kw_1055) rfl rfl rfl (by decide +kernel) ⟨by decide, by decide⟩) (pn_V (ex_ok g) hK hO k_h0 rfl hP hD hS hA hX [] rfl rfl rfl) rfl hl.1 rfl (Nat.le_of_ble_eq_true rfl) dL_part_7 ⟨Nat.le_of_ble_eq_true rfl, Nat.le_of_ble_eq_true rfl⟩ (fun r9 u9 H locs hu9 hP hD hS => ?_) (fun ex9 hex9 => ?_)
  · obtain ⟨q9, pl⟩ := u9
    obtain ⟨⟨eq9, er9, ez9, hF9, -, -, ⟨x8, hx8, ey8⟩, -⟩, hO⟩ := hu9
    have hP : va_P g.1 vcl ([(a, .inl (g.2.1 2, 1, .inr (.inl f)))] ++ pl) _ := hP
    have hD : va_D _ ([(a, .inl (g.2.1 2, 1, .inr (.inl f)))] ++ pl) := hD
    refine W.widen (k := 1) (n := 6) (by omega) (by omega) ?_
    refine lv_i2l (v := (r9).toInt64) hx hb dL_part_10 rfl ?_
    refine va_last hx hb hK hP hD hS 0 2 rfl rfl (vp_in_nI (by decide) (by decide)) dL_part_11 (fun H locs hP hD hS => ?_)
    have hP : va_P g.1 vcl ([(a, .inl (g.2.1 2, 1, .inr (.inl (vp_updL f (nI 0).toNatClampNeg ((r9).toInt64)))))] ++ pl) _ := hP
    have hD : va_D _ ([(a, .inl (g.2.1 2, 1, .inr (.inl (vp_updL f (nI 0).toNatClampNeg ((r9).toInt64)))))] ++ pl) := hD
    refine lv_goto (tgt := 23) hx hb dL_part_12 (by decide) ?_
    refine lv_iconst (v := nI 0) hx hb dL_part_23 (by decide) ?_
    exact mp_iret hx hb hr hlk hP hD hS ((q9, vp_updL f (nI 0).toNatClampNeg ((r9).toInt64)), pl) ⟨⟨eq9, ez9.symm, hF9, fun _ => outN (f := f) (congrArg Int32.toInt64 er9), hx8.trans (congrArg nI ey8)⟩, hO⟩ [0] rfl rfl rfl (by omega) (by omega) dL_part_24
  · obtain ⟨k9, ek9, hk9⟩ := xls_inv hex9
    rcases k9 with _ | _ | k9
    · have h9 : "java/util/NoSuchElementException" = ex9 := by simpa using hk9
      subst h9
      obtain ⟨pre9, x9, suf9, hsp, hpr, hx9⟩ := lc_at htab 0 rfl
      have hx1 : x9.startPc = 0 := congrArg (fun q => q.1) hx9
      have hx2 : x9.endPc = 12 := congrArg (fun q => q.2.1) hx9
      have hx3 : x9.handlerPc = 15 := congrArg (fun q => q.2.2.1) hx9
      have hx4 : x9.catchType = 44 := congrArg (fun q => q.2.2.2) hx9
      refine ⟨pre9, x9, suf9, "java/util/NoSuchElementException", hsp, (fun z9 hz9 => ?_), (by simp only [covers, hx1, hx2]; decide), (by rw [hx4]; decide), (by rw [hx4]; exact hts _ (wg_t kw_1051)), va_Nw.use rfl (hX.2.2.2.2.1 "java/util/NoSuchElementException" (by decide)), (fun q9 u9 H locs hu9 hP hD hS => ?_)⟩
      · have hc9 := hpr z9 hz9
        exact absurd hc9 (by simp)
      · rw [hx3]
        obtain ⟨q8, pl⟩ := u9
        obtain ⟨⟨eq9, hF9, -, -, ⟨x8, hx8, ey8⟩, -⟩, hO⟩ := hu9
        have eq9 : q8 = F_K_part v sc v3 s := eq9
        have hP : va_P g.1 vcl ([(a, .inl (g.2.1 2, 1, .inr (.inl f)))] ++ pl) _ := hP
        have hD : va_D _ ([(a, .inl (g.2.1 2, 1, .inr (.inl f)))] ++ pl) := hD
        refine W.widen (k := 1) (n := 6) (by omega) (by omega) ?_
        refine lv_astore (lv' := [(5, .ref q9), (0, .ref h0), (1, .int v), (2, .int sc), (3, .int v3), (4, .ref a)]) hx hb dL_part_15 hl (by decide) rfl (fun ls hl => ?_)
        refine lv_iconst (v := nI 1) hx hb dL_part_17 (by decide) ?_
        exact mp_iret hx hb hr hlk hP hD hS ((q8, f), pl) ⟨⟨eq9, (by rw [eq9]; exact ek9.symm), hF9, fun h9 => absurd ((congrArg Prod.fst eq9).trans ek9 |>.symm.trans h9) (by decide), hx8.trans (congrArg nI ey8)⟩, hO⟩ [0] rfl rfl rfl (by omega) (by omega) dL_part_18
    · have h9 : "java/lang/IndexOutOfBoundsException" = ex9 := by simpa using hk9
      subst h9
      obtain ⟨pre9, x9, suf9, hsp, hpr, hx9⟩ := lc_at htab 1 rfl
      have hx1 : x9.startPc = 0 := congrArg (fun q => q.1) hx9
      have hx2 : x9.endPc = 12 := congrArg (fun q => q.2.1) hx9
      have hx3 : x9.handlerPc = 19 := congrArg (fun q => q.2.2.1) hx9
      have hx4 : x9.catchType = 29 := congrArg (fun q => q.2.2.2) hx9
      refine ⟨pre9, x9, suf9, "java/lang/IndexOutOfBoundsException", hsp, (fun z9 hz9 => ?_), (by simp only [covers, hx1, hx2]; decide), (by rw [hx4]; decide), (by rw [hx4]; exact hts _ (wg_t kw_530)), va_Nw.use rfl (hX.2.2.2.2.1 "java/lang/IndexOutOfBoundsException" (by decide)), (fun q9 u9 H locs hu9 hP hD hS => ?_)⟩
      · have hc9 := hpr z9 hz9
        simp only [List.take, List.map, List.mem_cons, List.not_mem_nil, or_false] at hc9
        rw [hc9]; exact ⟨by decide, "java/util/NoSuchElementException", hts _ (wg_t kw_1051), hX.2.2.2.2.2.2.2.2 ("java/lang/IndexOutOfBoundsException", "java/util/NoSuchElementException") (by decide)⟩
      · rw [hx3]
        obtain ⟨q8, pl⟩ := u9
        obtain ⟨⟨eq9, hF9, -, -, ⟨x8, hx8, ey8⟩, -⟩, hO⟩ := hu9
        have eq9 : q8 = F_K_part v sc v3 s := eq9
        have hP : va_P g.1 vcl ([(a, .inl (g.2.1 2, 1, .inr (.inl f)))] ++ pl) _ := hP
        have hD : va_D _ ([(a, .inl (g.2.1 2, 1, .inr (.inl f)))] ++ pl) := hD
        refine W.widen (k := 1) (n := 6) (by omega) (by omega) ?_
        refine lv_astore (lv' := [(5, .ref q9), (0, .ref h0), (1, .int v), (2, .int sc), (3, .int v3), (4, .ref a)]) hx hb dL_part_19 hl (by decide) rfl (fun ls hl => ?_)
        refine lv_iconst (v := nI 2) hx hb dL_part_21 (by decide) ?_
        exact mp_iret hx hb hr hlk hP hD hS ((q8, f), pl) ⟨⟨eq9, (by rw [eq9]; exact ek9.symm), hF9, fun h9 => absurd ((congrArg Prod.fst eq9).trans ek9 |>.symm.trans h9) (by decide), hx8.trans (congrArg nI ey8)⟩, hO⟩ [0] rfl rfl rfl (by omega) (by omega) dL_part_22
    · exact absurd hk9 (by simp)
set_option maxHeartbeats 2000000 in
theorem ln_show (l : Launch) (htr : l.stackTraces = false) (g : Gd) (sz : Nat) (T : TyN) (s : Sto) (pl : va_W) (hO : okn g T s pl) (hU : inj T) (h0 : Nat) (v : Int32) (sc : Int32) (a : Nat) (f : Nat → Int64) (tl al pn : Nat) (k_h0 : T h0 = some 0) (e_tl : s.1 0 1 = nI tl) (e_al : s.1 0 3 = nI al) (e_pn : s.1 0 5 = nI pn) (h1 : tl ≤ 16384) (h2 : al ≤ 8192) (h3 : pn ≤ 8) : Met l y_L_show w_L_show ({ frames := 7, cells := 1, slots := 6, locals := 113 } : Room) (va_Pc [.ref h0, .int v, .int sc, .ref a] (pr (ex g) g.1 vcl sz ([(a, .inl (g.2.1 2, 1, .inr (.inl f)))] ++ pl))) (va_Qi (fun (r : Int32) (u : ((Int32 × Int32 × Sto) × (Nat → Int64)) × va_W) => (u.1.1 = F_K_show v sc s ∧ r = u.1.1.1 ∧ frm M_K_show s u.1.1.2.2 ∧ (u.1.1.1 = nI 0 → u.1.2 0 = u.1.1.2.1.toInt64) ∧ u.1.1.2.2.1 0 5 = nI pn) ∧ okn g T u.1.1.2.2 u.2) (po g.1 vcl (va_A ([(a, .inl (g.2.1 2, 1, .inr (.inl f)))] ++ pl) sz) (fun (u : ((Int32 × Int32 × Sto) × (Nat → Int64)) × va_W) => [(a, .inl (g.2.1 2, 1, .inr (.inl u.1.2)))] ++ u.2)) (va_A ([(a, .inl (g.2.1 2, 1, .inr (.inl f)))] ++ pl) sz)) 1 6 (va_A ([(a, .inl (g.2.1 2, 1, .inr (.inl f)))] ++ pl) sz) := by
  refine lc_entry (cc := c_L_show) (maxL := 5) (ret := (some .int)) (hh := [(0, 10, 13, 44)]) (by decide) rfl (Nat.le_of_ble_eq_true rfl) ?_
  intro p e s0 m args below meth c ls F hr hlk htab hsz hP hD hX hA hl
  obtain ⟨hx, hb, hml, hown, hts⟩ := id F
  have hE := hX.1
  have hK := hE.1
  generalize va_A ([(a, .inl (g.2.1 2, 1, .inr (.inl f)))] ++ pl) sz = A at hD hX hE hA ⊢
  have hS : va_S A s0.heap s0.heap [] := va_S.rf
  have hl : lv_has ls 5 [(0, .ref h0), (1, .int v), (2, .int sc), (3, .ref a)] := hl
  refine lv_aload_n hx hb dL_show_0 rfl (lv_at hl 3 rfl) ?_
  refine lv_iconst (v := nI 0) hx hb dL_show_1 (by decide) ?_
  refine lv_aload_n hx hb dL_show_2 rfl (lv_at hl 0 rfl) ?_
  refine lv_iload_n hx hb dL_show_3 rfl (lv_at hl 1 rfl) ?_
  refine lv_iload_n hx hb dL_show_4 rfl (lv_at hl 2 rfl) ?_
  refine et_i (cx := []) (wr := [(a, .inl (g.2.1 2, 1, .inr (.inl f)))]) (own := "LatticeKeysLaw") (C := "LatticeKeys") (As := [.int v, .int sc]) (rest := [.int (nI 0), .ref a]) hP hD hS hA [] [0] rfl rfl rfl (by decide) F (N_K_show l htr g _ T s pl hO hU h0 v sc tl al pn k_h0 e_tl e_al e_pn h1 h2 h3) (cwV 2 hts (wg_app (wg_c kw_1084 (wg_c kw_1085 (wg_c kw_1086 (wg_c kw_1 wg_n)))) kw_1087) rfl rfl rfl (by decide +kernel) ⟨by decide, by decide⟩) (pn_V (ex_ok g) hK hO k_h0 rfl hP hD hS hA hX [] rfl rfl rfl) rfl hl.1 rfl (Nat.le_of_ble_eq_true rfl) dL_show_5 ⟨Nat.le_of_ble_eq_true rfl, Nat.le_of_ble_eq_true rfl⟩ (fun r9 u9 H locs hu9 hP hD hS => ?_) (fun ex9 hex9 => ?_)
  · obtain ⟨q9, pl⟩ := u9
    obtain ⟨⟨eq9, er9, ez9, hF9, -, -, ⟨x8, hx8, ey8⟩, -⟩, hO⟩ := hu9
    have hP : va_P g.1 vcl ([(a, .inl (g.2.1 2, 1, .inr (.inl f)))] ++ pl) _ := hP
    have hD : va_D _ ([(a, .inl (g.2.1 2, 1, .inr (.inl f)))] ++ pl) := hD
    refine W.widen (k := 1) (n := 6) (by omega) (by omega) ?_
    refine lv_i2l (v := (r9).toInt64) hx hb dL_show_8 rfl ?_
    refine va_last hx hb hK hP hD hS 0 2 rfl rfl (vp_in_nI (by decide) (by decide)) dL_show_9 (fun H locs hP hD hS => ?_)
    have hP : va_P g.1 vcl ([(a, .inl (g.2.1 2, 1, .inr (.inl (vp_updL f (nI 0).toNatClampNeg ((r9).toInt64)))))] ++ pl) _ := hP
    have hD : va_D _ ([(a, .inl (g.2.1 2, 1, .inr (.inl (vp_updL f (nI 0).toNatClampNeg ((r9).toInt64)))))] ++ pl) := hD
    refine lv_goto (tgt := 17) hx hb dL_show_10 (by decide) ?_
    refine lv_iconst (v := nI 0) hx hb dL_show_17 (by decide) ?_
    exact mp_iret hx hb hr hlk hP hD hS ((q9, vp_updL f (nI 0).toNatClampNeg ((r9).toInt64)), pl) ⟨⟨eq9, ez9.symm, hF9, fun _ => outN (f := f) (congrArg Int32.toInt64 er9), hx8.trans (congrArg nI ey8)⟩, hO⟩ [0] rfl rfl rfl (by omega) (by omega) dL_show_18
  · obtain ⟨k9, ek9, hk9⟩ := xls_inv hex9
    rcases k9 with _ | k9
    · have h9 : "java/util/NoSuchElementException" = ex9 := by simpa using hk9
      subst h9
      obtain ⟨pre9, x9, suf9, hsp, hpr, hx9⟩ := lc_at htab 0 rfl
      have hx1 : x9.startPc = 0 := congrArg (fun q => q.1) hx9
      have hx2 : x9.endPc = 10 := congrArg (fun q => q.2.1) hx9
      have hx3 : x9.handlerPc = 13 := congrArg (fun q => q.2.2.1) hx9
      have hx4 : x9.catchType = 44 := congrArg (fun q => q.2.2.2) hx9
      refine ⟨pre9, x9, suf9, "java/util/NoSuchElementException", hsp, (fun z9 hz9 => ?_), (by simp only [covers, hx1, hx2]; decide), (by rw [hx4]; decide), (by rw [hx4]; exact hts _ (wg_t kw_1051)), va_Nw.use rfl (hX.2.2.2.2.1 "java/util/NoSuchElementException" (by decide)), (fun q9 u9 H locs hu9 hP hD hS => ?_)⟩
      · have hc9 := hpr z9 hz9
        exact absurd hc9 (by simp)
      · rw [hx3]
        obtain ⟨q8, pl⟩ := u9
        obtain ⟨⟨eq9, hF9, -, -, ⟨x8, hx8, ey8⟩, -⟩, hO⟩ := hu9
        have eq9 : q8 = F_K_show v sc s := eq9
        have hP : va_P g.1 vcl ([(a, .inl (g.2.1 2, 1, .inr (.inl f)))] ++ pl) _ := hP
        have hD : va_D _ ([(a, .inl (g.2.1 2, 1, .inr (.inl f)))] ++ pl) := hD
        refine W.widen (k := 1) (n := 6) (by omega) (by omega) ?_
        refine lv_astore (lv' := [(4, .ref q9), (0, .ref h0), (1, .int v), (2, .int sc), (3, .ref a)]) hx hb dL_show_13 hl (by decide) rfl (fun ls hl => ?_)
        refine lv_iconst (v := nI 1) hx hb dL_show_15 (by decide) ?_
        exact mp_iret hx hb hr hlk hP hD hS ((q8, f), pl) ⟨⟨eq9, (by rw [eq9]; exact ek9.symm), hF9, fun h9 => absurd ((congrArg Prod.fst eq9).trans ek9 |>.symm.trans h9) (by decide), hx8.trans (congrArg nI ey8)⟩, hO⟩ [0] rfl rfl rfl (by omega) (by omega) dL_show_16
    · exact absurd hk9 (by simp)
set_option maxHeartbeats 2000000 in
theorem ln_told (l : Launch) (htr : l.stackTraces = false) (g : Gd) (sz : Nat) (T : TyN) (s : Sto) (pl : va_W) (hO : okn g T s pl) (hU : inj T) (h0 : Nat) (v : Int32) (v2 : Int32) (a : Nat) (f : Nat → Int64) (tl al pn : Nat) (k_h0 : T h0 = some 0) (e_tl : s.1 0 1 = nI tl) (e_al : s.1 0 3 = nI al) (e_pn : s.1 0 5 = nI pn) (h1 : tl ≤ 16384) (h2 : al ≤ 8192) (h3 : pn ≤ 8) : Met l y_L_told w_L_told ({ frames := 7, cells := 1, slots := 6, locals := 113 } : Room) (va_Pc [.ref h0, .int v, .int v2, .ref a] (pr (ex g) g.1 vcl sz ([(a, .inl (g.2.1 2, 1, .inr (.inl f)))] ++ pl))) (va_Qi (fun (r : Int32) (u : ((Int32 × Int32 × Sto) × (Nat → Int64)) × va_W) => (u.1.1 = F_K_told v v2 s ∧ r = u.1.1.1 ∧ frm M_K_told s u.1.1.2.2 ∧ (u.1.1.1 = nI 0 → u.1.2 0 = u.1.1.2.1.toInt64) ∧ u.1.1.2.2.1 0 5 = nI pn) ∧ okn g T u.1.1.2.2 u.2) (po g.1 vcl (va_A ([(a, .inl (g.2.1 2, 1, .inr (.inl f)))] ++ pl) sz) (fun (u : ((Int32 × Int32 × Sto) × (Nat → Int64)) × va_W) => [(a, .inl (g.2.1 2, 1, .inr (.inl u.1.2)))] ++ u.2)) (va_A ([(a, .inl (g.2.1 2, 1, .inr (.inl f)))] ++ pl) sz)) 1 6 (va_A ([(a, .inl (g.2.1 2, 1, .inr (.inl f)))] ++ pl) sz) := by
  refine lc_entry (cc := c_L_told) (maxL := 5) (ret := (some .int)) (hh := [(0, 10, 13, 44), (0, 10, 17, 19)]) (by decide) rfl (Nat.le_of_ble_eq_true rfl) ?_
  intro p e s0 m args below meth c ls F hr hlk htab hsz hP hD hX hA hl
  obtain ⟨hx, hb, hml, hown, hts⟩ := id F
  have hE := hX.1
  have hK := hE.1
  generalize va_A ([(a, .inl (g.2.1 2, 1, .inr (.inl f)))] ++ pl) sz = A at hD hX hE hA ⊢
  have hS : va_S A s0.heap s0.heap [] := va_S.rf
  have hl : lv_has ls 5 [(0, .ref h0), (1, .int v), (2, .int v2), (3, .ref a)] := hl
  refine lv_aload_n hx hb dL_told_0 rfl (lv_at hl 3 rfl) ?_
  refine lv_iconst (v := nI 0) hx hb dL_told_1 (by decide) ?_
  refine lv_aload_n hx hb dL_told_2 rfl (lv_at hl 0 rfl) ?_
  refine lv_iload_n hx hb dL_told_3 rfl (lv_at hl 1 rfl) ?_
  refine lv_iload_n hx hb dL_told_4 rfl (lv_at hl 2 rfl) ?_
  refine et_i (cx := []) (wr := [(a, .inl (g.2.1 2, 1, .inr (.inl f)))]) (own := "LatticeKeysLaw") (C := "LatticeKeys") (As := [.int v, .int v2]) (rest := [.int (nI 0), .ref a]) hP hD hS hA [] [0] rfl rfl rfl (by decide) F (N_K_told l htr g _ T s pl hO hU h0 v v2 tl al pn k_h0 e_tl e_al e_pn h1 h2 h3) (cwV 2 hts (wg_app (wg_c kw_1091 (wg_c kw_1092 (wg_c kw_1093 (wg_c kw_1 wg_n)))) kw_1094) rfl rfl rfl (by decide +kernel) ⟨by decide, by decide⟩) (pn_V (ex_ok g) hK hO k_h0 rfl hP hD hS hA hX [] rfl rfl rfl) rfl hl.1 rfl (Nat.le_of_ble_eq_true rfl) dL_told_5 ⟨Nat.le_of_ble_eq_true rfl, Nat.le_of_ble_eq_true rfl⟩ (fun r9 u9 H locs hu9 hP hD hS => ?_) (fun ex9 hex9 => ?_)
  · obtain ⟨q9, pl⟩ := u9
    obtain ⟨⟨eq9, er9, ez9, hF9, -, -, ⟨x8, hx8, ey8⟩, -⟩, hO⟩ := hu9
    have hP : va_P g.1 vcl ([(a, .inl (g.2.1 2, 1, .inr (.inl f)))] ++ pl) _ := hP
    have hD : va_D _ ([(a, .inl (g.2.1 2, 1, .inr (.inl f)))] ++ pl) := hD
    refine W.widen (k := 1) (n := 6) (by omega) (by omega) ?_
    refine lv_i2l (v := (r9).toInt64) hx hb dL_told_8 rfl ?_
    refine va_last hx hb hK hP hD hS 0 2 rfl rfl (vp_in_nI (by decide) (by decide)) dL_told_9 (fun H locs hP hD hS => ?_)
    have hP : va_P g.1 vcl ([(a, .inl (g.2.1 2, 1, .inr (.inl (vp_updL f (nI 0).toNatClampNeg ((r9).toInt64)))))] ++ pl) _ := hP
    have hD : va_D _ ([(a, .inl (g.2.1 2, 1, .inr (.inl (vp_updL f (nI 0).toNatClampNeg ((r9).toInt64)))))] ++ pl) := hD
    refine lv_goto (tgt := 21) hx hb dL_told_10 (by decide) ?_
    refine lv_iconst (v := nI 0) hx hb dL_told_21 (by decide) ?_
    exact mp_iret hx hb hr hlk hP hD hS ((q9, vp_updL f (nI 0).toNatClampNeg ((r9).toInt64)), pl) ⟨⟨eq9, ez9.symm, hF9, fun _ => outN (f := f) (congrArg Int32.toInt64 er9), hx8.trans (congrArg nI ey8)⟩, hO⟩ [0] rfl rfl rfl (by omega) (by omega) dL_told_22
  · obtain ⟨k9, ek9, hk9⟩ := xls_inv hex9
    rcases k9 with _ | _ | k9
    · have h9 : "java/util/NoSuchElementException" = ex9 := by simpa using hk9
      subst h9
      obtain ⟨pre9, x9, suf9, hsp, hpr, hx9⟩ := lc_at htab 0 rfl
      have hx1 : x9.startPc = 0 := congrArg (fun q => q.1) hx9
      have hx2 : x9.endPc = 10 := congrArg (fun q => q.2.1) hx9
      have hx3 : x9.handlerPc = 13 := congrArg (fun q => q.2.2.1) hx9
      have hx4 : x9.catchType = 44 := congrArg (fun q => q.2.2.2) hx9
      refine ⟨pre9, x9, suf9, "java/util/NoSuchElementException", hsp, (fun z9 hz9 => ?_), (by simp only [covers, hx1, hx2]; decide), (by rw [hx4]; decide), (by rw [hx4]; exact hts _ (wg_t kw_1051)), va_Nw.use rfl (hX.2.2.2.2.1 "java/util/NoSuchElementException" (by decide)), (fun q9 u9 H locs hu9 hP hD hS => ?_)⟩
      · have hc9 := hpr z9 hz9
        exact absurd hc9 (by simp)
      · rw [hx3]
        obtain ⟨q8, pl⟩ := u9
        obtain ⟨⟨eq9, hF9, -, -, ⟨x8, hx8, ey8⟩, -⟩, hO⟩ := hu9
        have eq9 : q8 = F_K_told v v2 s := eq9
        have hP : va_P g.1 vcl ([(a, .inl (g.2.1 2, 1, .inr (.inl f)))] ++ pl) _ := hP
        have hD : va_D _ ([(a, .inl (g.2.1 2, 1, .inr (.inl f)))] ++ pl) := hD
        refine W.widen (k := 1) (n := 6) (by omega) (by omega) ?_
        refine lv_astore (lv' := [(4, .ref q9), (0, .ref h0), (1, .int v), (2, .int v2), (3, .ref a)]) hx hb dL_told_13 hl (by decide) rfl (fun ls hl => ?_)
        refine lv_iconst (v := nI 1) hx hb dL_told_15 (by decide) ?_
        exact mp_iret hx hb hr hlk hP hD hS ((q8, f), pl) ⟨⟨eq9, (by rw [eq9]; exact ek9.symm), hF9, fun h9 => absurd ((congrArg Prod.fst eq9).trans ek9 |>.symm.trans h9) (by decide), hx8.trans (congrArg nI ey8)⟩, hO⟩ [0] rfl rfl rfl (by omega) (by omega) dL_told_16
    · have h9 : "java/lang/IllegalArgumentException" = ex9 := by simpa using hk9
      subst h9
      obtain ⟨pre9, x9, suf9, hsp, hpr, hx9⟩ := lc_at htab 1 rfl
      have hx1 : x9.startPc = 0 := congrArg (fun q => q.1) hx9
      have hx2 : x9.endPc = 10 := congrArg (fun q => q.2.1) hx9
      have hx3 : x9.handlerPc = 17 := congrArg (fun q => q.2.2.1) hx9
      have hx4 : x9.catchType = 19 := congrArg (fun q => q.2.2.2) hx9
      refine ⟨pre9, x9, suf9, "java/lang/IllegalArgumentException", hsp, (fun z9 hz9 => ?_), (by simp only [covers, hx1, hx2]; decide), (by rw [hx4]; decide), (by rw [hx4]; exact hts _ (wg_t kw_496)), va_Nw.use rfl (hX.2.2.2.2.1 "java/lang/IllegalArgumentException" (by decide)), (fun q9 u9 H locs hu9 hP hD hS => ?_)⟩
      · have hc9 := hpr z9 hz9
        simp only [List.take, List.map, List.mem_cons, List.not_mem_nil, or_false] at hc9
        rw [hc9]; exact ⟨by decide, "java/util/NoSuchElementException", hts _ (wg_t kw_1051), hX.2.2.2.2.2.2.2.2 ("java/lang/IllegalArgumentException", "java/util/NoSuchElementException") (by decide)⟩
      · rw [hx3]
        obtain ⟨q8, pl⟩ := u9
        obtain ⟨⟨eq9, hF9, -, -, ⟨x8, hx8, ey8⟩, -⟩, hO⟩ := hu9
        have eq9 : q8 = F_K_told v v2 s := eq9
        have hP : va_P g.1 vcl ([(a, .inl (g.2.1 2, 1, .inr (.inl f)))] ++ pl) _ := hP
        have hD : va_D _ ([(a, .inl (g.2.1 2, 1, .inr (.inl f)))] ++ pl) := hD
        refine W.widen (k := 1) (n := 6) (by omega) (by omega) ?_
        refine lv_astore (lv' := [(4, .ref q9), (0, .ref h0), (1, .int v), (2, .int v2), (3, .ref a)]) hx hb dL_told_17 hl (by decide) rfl (fun ls hl => ?_)
        refine lv_iconst (v := nI 2) hx hb dL_told_19 (by decide) ?_
        exact mp_iret hx hb hr hlk hP hD hS ((q8, f), pl) ⟨⟨eq9, (by rw [eq9]; exact ek9.symm), hF9, fun h9 => absurd ((congrArg Prod.fst eq9).trans ek9 |>.symm.trans h9) (by decide), hx8.trans (congrArg nI ey8)⟩, hO⟩ [0] rfl rfl rfl (by omega) (by omega) dL_told_20
    · exact absurd hk9 (by simp)
set_option maxHeartbeats 2000000 in
theorem ln_end (l : Launch) (htr : l.stackTraces = false) (g : Gd) (sz : Nat) (T : TyN) (s : Sto) (pl : va_W) (hO : okn g T s pl) (hU : inj T) (h0 : Nat) (v : Int32) (a : Nat) (f : Nat → Int64) (tl al pn : Nat) (k_h0 : T h0 = some 0) (e_tl : s.1 0 1 = nI tl) (e_al : s.1 0 3 = nI al) (e_pn : s.1 0 5 = nI pn) (h1 : tl ≤ 16384) (h2 : al ≤ 8192) (h3 : pn ≤ 8) : Met l y_L_end w_L_end ({ frames := 7, cells := 1, slots := 6, locals := 111 } : Room) (va_Pc [.ref h0, .int v, .ref a] (pr (ex g) g.1 vcl sz ([(a, .inl (g.2.1 2, 1, .inr (.inl f)))] ++ pl))) (va_Qi (fun (r : Int32) (u : ((Int32 × Int32 × Sto) × (Nat → Int64)) × va_W) => (u.1.1 = F_K_end v s ∧ r = u.1.1.1 ∧ frm M_K_end s u.1.1.2.2 ∧ (u.1.1.1 = nI 0 → u.1.2 0 = u.1.1.2.1.toInt64) ∧ u.1.1.2.2.1 0 5 = nI pn) ∧ okn g T u.1.1.2.2 u.2) (po g.1 vcl (va_A ([(a, .inl (g.2.1 2, 1, .inr (.inl f)))] ++ pl) sz) (fun (u : ((Int32 × Int32 × Sto) × (Nat → Int64)) × va_W) => [(a, .inl (g.2.1 2, 1, .inr (.inl u.1.2)))] ++ u.2)) (va_A ([(a, .inl (g.2.1 2, 1, .inr (.inl f)))] ++ pl) sz)) 1 6 (va_A ([(a, .inl (g.2.1 2, 1, .inr (.inl f)))] ++ pl) sz) := by
  refine lc_entry (cc := c_L_end) (maxL := 4) (ret := (some .int)) (hh := [(0, 9, 12, 19)]) (by decide) rfl (Nat.le_of_ble_eq_true rfl) ?_
  intro p e s0 m args below meth c ls F hr hlk htab hsz hP hD hX hA hl
  obtain ⟨hx, hb, hml, hown, hts⟩ := id F
  have hE := hX.1
  have hK := hE.1
  generalize va_A ([(a, .inl (g.2.1 2, 1, .inr (.inl f)))] ++ pl) sz = A at hD hX hE hA ⊢
  have hS : va_S A s0.heap s0.heap [] := va_S.rf
  have hl : lv_has ls 4 [(0, .ref h0), (1, .int v), (2, .ref a)] := hl
  refine lv_aload_n hx hb dL_end_0 rfl (lv_at hl 2 rfl) ?_
  refine lv_iconst (v := nI 0) hx hb dL_end_1 (by decide) ?_
  refine lv_aload_n hx hb dL_end_2 rfl (lv_at hl 0 rfl) ?_
  refine lv_iload_n hx hb dL_end_3 rfl (lv_at hl 1 rfl) ?_
  refine et_i (cx := []) (wr := [(a, .inl (g.2.1 2, 1, .inr (.inl f)))]) (own := "LatticeKeysLaw") (C := "LatticeKeys") (As := [.int v]) (rest := [.int (nI 0), .ref a]) hP hD hS hA [] [0] rfl rfl rfl (by decide) F (N_K_end l htr g _ T s pl hO hU h0 v tl al pn k_h0 e_tl e_al e_pn h1 h2 h3) (cwV 1 hts (wg_app (wg_c kw_497 (wg_c kw_498 (wg_c kw_499 (wg_c kw_1 wg_n)))) kw_500) rfl rfl rfl (by decide +kernel) ⟨by decide, by decide⟩) (pn_V (ex_ok g) hK hO k_h0 rfl hP hD hS hA hX [] rfl rfl rfl) rfl hl.1 rfl (Nat.le_of_ble_eq_true rfl) dL_end_4 ⟨Nat.le_of_ble_eq_true rfl, Nat.le_of_ble_eq_true rfl⟩ (fun r9 u9 H locs hu9 hP hD hS => ?_) (fun ex9 hex9 => ?_)
  · obtain ⟨q9, pl⟩ := u9
    obtain ⟨⟨eq9, er9, ez9, hF9, -, -, ⟨x8, hx8, ey8⟩, -⟩, hO⟩ := hu9
    have hP : va_P g.1 vcl ([(a, .inl (g.2.1 2, 1, .inr (.inl f)))] ++ pl) _ := hP
    have hD : va_D _ ([(a, .inl (g.2.1 2, 1, .inr (.inl f)))] ++ pl) := hD
    refine W.widen (k := 1) (n := 6) (by omega) (by omega) ?_
    refine lv_i2l (v := (r9).toInt64) hx hb dL_end_7 rfl ?_
    refine va_last hx hb hK hP hD hS 0 2 rfl rfl (vp_in_nI (by decide) (by decide)) dL_end_8 (fun H locs hP hD hS => ?_)
    have hP : va_P g.1 vcl ([(a, .inl (g.2.1 2, 1, .inr (.inl (vp_updL f (nI 0).toNatClampNeg ((r9).toInt64)))))] ++ pl) _ := hP
    have hD : va_D _ ([(a, .inl (g.2.1 2, 1, .inr (.inl (vp_updL f (nI 0).toNatClampNeg ((r9).toInt64)))))] ++ pl) := hD
    refine lv_goto (tgt := 15) hx hb dL_end_9 (by decide) ?_
    refine lv_iconst (v := nI 0) hx hb dL_end_15 (by decide) ?_
    exact mp_iret hx hb hr hlk hP hD hS ((q9, vp_updL f (nI 0).toNatClampNeg ((r9).toInt64)), pl) ⟨⟨eq9, ez9.symm, hF9, fun _ => outN (f := f) (congrArg Int32.toInt64 er9), hx8.trans (congrArg nI ey8)⟩, hO⟩ [0] rfl rfl rfl (by omega) (by omega) dL_end_16
  · obtain ⟨k9, ek9, hk9⟩ := xls_inv hex9
    rcases k9 with _ | k9
    · have h9 : "java/lang/IllegalArgumentException" = ex9 := by simpa using hk9
      subst h9
      obtain ⟨pre9, x9, suf9, hsp, hpr, hx9⟩ := lc_at htab 0 rfl
      have hx1 : x9.startPc = 0 := congrArg (fun q => q.1) hx9
      have hx2 : x9.endPc = 9 := congrArg (fun q => q.2.1) hx9
      have hx3 : x9.handlerPc = 12 := congrArg (fun q => q.2.2.1) hx9
      have hx4 : x9.catchType = 19 := congrArg (fun q => q.2.2.2) hx9
      refine ⟨pre9, x9, suf9, "java/lang/IllegalArgumentException", hsp, (fun z9 hz9 => ?_), (by simp only [covers, hx1, hx2]; decide), (by rw [hx4]; decide), (by rw [hx4]; exact hts _ (wg_t kw_496)), va_Nw.use rfl (hX.2.2.2.2.1 "java/lang/IllegalArgumentException" (by decide)), (fun q9 u9 H locs hu9 hP hD hS => ?_)⟩
      · have hc9 := hpr z9 hz9
        exact absurd hc9 (by simp)
      · rw [hx3]
        obtain ⟨q8, pl⟩ := u9
        obtain ⟨⟨eq9, hF9, -, -, ⟨x8, hx8, ey8⟩, -⟩, hO⟩ := hu9
        have eq9 : q8 = F_K_end v s := eq9
        have hP : va_P g.1 vcl ([(a, .inl (g.2.1 2, 1, .inr (.inl f)))] ++ pl) _ := hP
        have hD : va_D _ ([(a, .inl (g.2.1 2, 1, .inr (.inl f)))] ++ pl) := hD
        refine W.widen (k := 1) (n := 6) (by omega) (by omega) ?_
        refine lv_astore_n (lv' := [(3, .ref q9), (0, .ref h0), (1, .int v), (2, .ref a)]) hx hb dL_end_12 rfl hl (by decide) rfl (fun ls hl => ?_)
        refine lv_iconst (v := nI 1) hx hb dL_end_13 (by decide) ?_
        exact mp_iret hx hb hr hlk hP hD hS ((q8, f), pl) ⟨⟨eq9, (by rw [eq9]; exact ek9.symm), hF9, fun h9 => absurd ((congrArg Prod.fst eq9).trans ek9 |>.symm.trans h9) (by decide), hx8.trans (congrArg nI ey8)⟩, hO⟩ [0] rfl rfl rfl (by omega) (by omega) dL_end_14
    · exact absurd hk9 (by simp)
set_option maxHeartbeats 2000000 in
theorem ln_again (l : Launch) (htr : l.stackTraces = false) (g : Gd) (sz : Nat) (T : TyN) (s : Sto) (pl : va_W) (hO : okn g T s pl) (hU : inj T) (h0 : Nat) (a : Nat) (f : Nat → Int64) (tl al pn : Nat) (k_h0 : T h0 = some 0) (e_tl : s.1 0 1 = nI tl) (e_al : s.1 0 3 = nI al) (e_pn : s.1 0 5 = nI pn) (h1 : tl ≤ 16384) (h2 : al ≤ 8192) (h3 : pn ≤ 8) : Met l y_L_again w_L_again ({ frames := 7, cells := 1, slots := 6, locals := 110 } : Room) (va_Pc [.ref h0, .ref a] (pr (ex g) g.1 vcl sz ([(a, .inl (g.2.1 2, 1, .inr (.inl f)))] ++ pl))) (va_Qi (fun (r : Int32) (u : ((Int32 × Int32 × Sto) × (Nat → Int64)) × va_W) => (u.1.1 = F_K_again s ∧ r = u.1.1.1 ∧ frm M_K_again s u.1.1.2.2 ∧ (u.1.1.1 = nI 0 → u.1.2 0 = u.1.1.2.1.toInt64) ∧ u.1.1.2.2.1 0 5 = nI pn) ∧ okn g T u.1.1.2.2 u.2) (po g.1 vcl (va_A ([(a, .inl (g.2.1 2, 1, .inr (.inl f)))] ++ pl) sz) (fun (u : ((Int32 × Int32 × Sto) × (Nat → Int64)) × va_W) => [(a, .inl (g.2.1 2, 1, .inr (.inl u.1.2)))] ++ u.2)) (va_A ([(a, .inl (g.2.1 2, 1, .inr (.inl f)))] ++ pl) sz)) 1 6 (va_A ([(a, .inl (g.2.1 2, 1, .inr (.inl f)))] ++ pl) sz) := by
  refine lc_entry (cc := c_L_again) (maxL := 3) (ret := (some .int)) (hh := [(0, 8, 11, 13)]) (by decide) rfl (Nat.le_of_ble_eq_true rfl) ?_
  intro p e s0 m args below meth c ls F hr hlk htab hsz hP hD hX hA hl
  obtain ⟨hx, hb, hml, hown, hts⟩ := id F
  have hE := hX.1
  have hK := hE.1
  generalize va_A ([(a, .inl (g.2.1 2, 1, .inr (.inl f)))] ++ pl) sz = A at hD hX hE hA ⊢
  have hS : va_S A s0.heap s0.heap [] := va_S.rf
  have hl : lv_has ls 3 [(0, .ref h0), (1, .ref a)] := hl
  refine lv_aload_n hx hb dL_again_0 rfl (lv_at hl 1 rfl) ?_
  refine lv_iconst (v := nI 0) hx hb dL_again_1 (by decide) ?_
  refine lv_aload_n hx hb dL_again_2 rfl (lv_at hl 0 rfl) ?_
  refine et_i (cx := []) (wr := [(a, .inl (g.2.1 2, 1, .inr (.inl f)))]) (own := "LatticeKeysLaw") (C := "LatticeKeys") (As := []) (rest := [.int (nI 0), .ref a]) hP hD hS hA [] [0] rfl rfl rfl (by decide) F (N_K_again l htr g _ T s pl hO hU h0 tl al pn k_h0 e_tl e_al e_pn h1 h2 h3) (cwV 0 hts (wg_app (wg_c kw_520 (wg_c kw_521 (wg_c kw_522 (wg_c kw_1 wg_n)))) kw_523) rfl rfl rfl (by decide +kernel) ⟨by decide, by decide⟩) (pn_V (ex_ok g) hK hO k_h0 rfl hP hD hS hA hX [] rfl rfl rfl) rfl hl.1 rfl (Nat.le_of_ble_eq_true rfl) dL_again_3 ⟨Nat.le_of_ble_eq_true rfl, Nat.le_of_ble_eq_true rfl⟩ (fun r9 u9 H locs hu9 hP hD hS => ?_) (fun ex9 hex9 => ?_)
  · obtain ⟨q9, pl⟩ := u9
    obtain ⟨⟨eq9, er9, ez9, hF9, -, -, ⟨x8, hx8, ey8⟩, -⟩, hO⟩ := hu9
    have hP : va_P g.1 vcl ([(a, .inl (g.2.1 2, 1, .inr (.inl f)))] ++ pl) _ := hP
    have hD : va_D _ ([(a, .inl (g.2.1 2, 1, .inr (.inl f)))] ++ pl) := hD
    refine W.widen (k := 1) (n := 6) (by omega) (by omega) ?_
    refine lv_i2l (v := (r9).toInt64) hx hb dL_again_6 rfl ?_
    refine va_last hx hb hK hP hD hS 0 2 rfl rfl (vp_in_nI (by decide) (by decide)) dL_again_7 (fun H locs hP hD hS => ?_)
    have hP : va_P g.1 vcl ([(a, .inl (g.2.1 2, 1, .inr (.inl (vp_updL f (nI 0).toNatClampNeg ((r9).toInt64)))))] ++ pl) _ := hP
    have hD : va_D _ ([(a, .inl (g.2.1 2, 1, .inr (.inl (vp_updL f (nI 0).toNatClampNeg ((r9).toInt64)))))] ++ pl) := hD
    refine lv_goto (tgt := 14) hx hb dL_again_8 (by decide) ?_
    refine lv_iconst (v := nI 0) hx hb dL_again_14 (by decide) ?_
    exact mp_iret hx hb hr hlk hP hD hS ((q9, vp_updL f (nI 0).toNatClampNeg ((r9).toInt64)), pl) ⟨⟨eq9, ez9.symm, hF9, fun _ => outN (f := f) (congrArg Int32.toInt64 er9), hx8.trans (congrArg nI ey8)⟩, hO⟩ [0] rfl rfl rfl (by omega) (by omega) dL_again_15
  · obtain ⟨k9, ek9, hk9⟩ := xls_inv hex9
    rcases k9 with _ | k9
    · have h9 : "java/lang/IllegalStateException" = ex9 := by simpa using hk9
      subst h9
      obtain ⟨pre9, x9, suf9, hsp, hpr, hx9⟩ := lc_at htab 0 rfl
      have hx1 : x9.startPc = 0 := congrArg (fun q => q.1) hx9
      have hx2 : x9.endPc = 8 := congrArg (fun q => q.2.1) hx9
      have hx3 : x9.handlerPc = 11 := congrArg (fun q => q.2.2.1) hx9
      have hx4 : x9.catchType = 13 := congrArg (fun q => q.2.2.2) hx9
      refine ⟨pre9, x9, suf9, "java/lang/IllegalStateException", hsp, (fun z9 hz9 => ?_), (by simp only [covers, hx1, hx2]; decide), (by rw [hx4]; decide), (by rw [hx4]; exact hts _ (wg_t kw_415)), va_Nw.use rfl (hX.2.2.2.2.1 "java/lang/IllegalStateException" (by decide)), (fun q9 u9 H locs hu9 hP hD hS => ?_)⟩
      · have hc9 := hpr z9 hz9
        exact absurd hc9 (by simp)
      · rw [hx3]
        obtain ⟨q8, pl⟩ := u9
        obtain ⟨⟨eq9, hF9, -, -, ⟨x8, hx8, ey8⟩, -⟩, hO⟩ := hu9
        have eq9 : q8 = F_K_again s := eq9
        have hP : va_P g.1 vcl ([(a, .inl (g.2.1 2, 1, .inr (.inl f)))] ++ pl) _ := hP
        have hD : va_D _ ([(a, .inl (g.2.1 2, 1, .inr (.inl f)))] ++ pl) := hD
        refine W.widen (k := 1) (n := 6) (by omega) (by omega) ?_
        refine lv_astore_n (lv' := [(2, .ref q9), (0, .ref h0), (1, .ref a)]) hx hb dL_again_11 rfl hl (by decide) rfl (fun ls hl => ?_)
        refine lv_iconst (v := nI 1) hx hb dL_again_12 (by decide) ?_
        exact mp_iret hx hb hr hlk hP hD hS ((q8, f), pl) ⟨⟨eq9, (by rw [eq9]; exact ek9.symm), hF9, fun h9 => absurd ((congrArg Prod.fst eq9).trans ek9 |>.symm.trans h9) (by decide), hx8.trans (congrArg nI ey8)⟩, hO⟩ [0] rfl rfl rfl (by omega) (by omega) dL_again_13
    · exact absurd hk9 (by simp)
set_option maxHeartbeats 2000000 in
theorem ln_alter (l : Launch) (htr : l.stackTraces = false) (g : Gd) (sz : Nat) (T : TyN) (s : Sto) (pl : va_W) (hO : okn g T s pl) (hU : inj T) (h0 : Nat) (v : Int32) (v2 : Int32) (a : Nat) (f : Nat → Int64) (tl al pn : Nat) (k_h0 : T h0 = some 0) (e_tl : s.1 0 1 = nI tl) (e_al : s.1 0 3 = nI al) (e_pn : s.1 0 5 = nI pn) (h1 : tl ≤ 16384) (h2 : al ≤ 8192) (h3 : pn ≤ 8) : Met l y_L_alter w_L_alter ({ frames := 7, cells := 1, slots := 6, locals := 112 } : Room) (va_Pc [.ref h0, .int v, .int v2, .ref a] (pr (ex g) g.1 vcl sz ([(a, .inl (g.2.1 2, 1, .inr (.inl f)))] ++ pl))) (va_Qi (fun (r : Int32) (u : ((Int32 × Int32 × Sto) × (Nat → Int64)) × va_W) => (u.1.1 = F_K_alter v v2 s ∧ r = u.1.1.1 ∧ frm M_K_alter s u.1.1.2.2 ∧ (u.1.1.1 = nI 0 → u.1.2 0 = u.1.1.2.1.toInt64) ∧ u.1.1.2.2.1 0 5 = nI pn) ∧ okn g T u.1.1.2.2 u.2) (po g.1 vcl (va_A ([(a, .inl (g.2.1 2, 1, .inr (.inl f)))] ++ pl) sz) (fun (u : ((Int32 × Int32 × Sto) × (Nat → Int64)) × va_W) => [(a, .inl (g.2.1 2, 1, .inr (.inl u.1.2)))] ++ u.2)) (va_A ([(a, .inl (g.2.1 2, 1, .inr (.inl f)))] ++ pl) sz)) 1 6 (va_A ([(a, .inl (g.2.1 2, 1, .inr (.inl f)))] ++ pl) sz) := by
  refine lc_entry (cc := c_L_alter) (maxL := 5) (ret := (some .int)) (hh := [(0, 10, 13, 29)]) (by decide) rfl (Nat.le_of_ble_eq_true rfl) ?_
  intro p e s0 m args below meth c ls F hr hlk htab hsz hP hD hX hA hl
  obtain ⟨hx, hb, hml, hown, hts⟩ := id F
  have hE := hX.1
  have hK := hE.1
  generalize va_A ([(a, .inl (g.2.1 2, 1, .inr (.inl f)))] ++ pl) sz = A at hD hX hE hA ⊢
  have hS : va_S A s0.heap s0.heap [] := va_S.rf
  have hl : lv_has ls 5 [(0, .ref h0), (1, .int v), (2, .int v2), (3, .ref a)] := hl
  refine lv_aload_n hx hb dL_alter_0 rfl (lv_at hl 3 rfl) ?_
  refine lv_iconst (v := nI 0) hx hb dL_alter_1 (by decide) ?_
  refine lv_aload_n hx hb dL_alter_2 rfl (lv_at hl 0 rfl) ?_
  refine lv_iload_n hx hb dL_alter_3 rfl (lv_at hl 1 rfl) ?_
  refine lv_iload_n hx hb dL_alter_4 rfl (lv_at hl 2 rfl) ?_
  refine et_i (cx := []) (wr := [(a, .inl (g.2.1 2, 1, .inr (.inl f)))]) (own := "LatticeKeysLaw") (C := "LatticeKeys") (As := [.int v, .int v2]) (rest := [.int (nI 0), .ref a]) hP hD hS hA [] [0] rfl rfl rfl (by decide) F (N_K_alter l htr g _ T s pl hO hU h0 v v2 tl al pn k_h0 e_tl e_al e_pn h1 h2 h3) (cwV 2 hts (wg_app (wg_c kw_531 (wg_c kw_532 (wg_c kw_533 (wg_c kw_1 wg_n)))) kw_534) rfl rfl rfl (by decide +kernel) ⟨by decide, by decide⟩) (pn_V (ex_ok g) hK hO k_h0 rfl hP hD hS hA hX [] rfl rfl rfl) rfl hl.1 rfl (Nat.le_of_ble_eq_true rfl) dL_alter_5 ⟨Nat.le_of_ble_eq_true rfl, Nat.le_of_ble_eq_true rfl⟩ (fun r9 u9 H locs hu9 hP hD hS => ?_) (fun ex9 hex9 => ?_)
  · obtain ⟨q9, pl⟩ := u9
    obtain ⟨⟨eq9, er9, ez9, hF9, -, -, ⟨x8, hx8, ey8⟩, -⟩, hO⟩ := hu9
    have hP : va_P g.1 vcl ([(a, .inl (g.2.1 2, 1, .inr (.inl f)))] ++ pl) _ := hP
    have hD : va_D _ ([(a, .inl (g.2.1 2, 1, .inr (.inl f)))] ++ pl) := hD
    refine W.widen (k := 1) (n := 6) (by omega) (by omega) ?_
    refine lv_i2l (v := (r9).toInt64) hx hb dL_alter_8 rfl ?_
    refine va_last hx hb hK hP hD hS 0 2 rfl rfl (vp_in_nI (by decide) (by decide)) dL_alter_9 (fun H locs hP hD hS => ?_)
    have hP : va_P g.1 vcl ([(a, .inl (g.2.1 2, 1, .inr (.inl (vp_updL f (nI 0).toNatClampNeg ((r9).toInt64)))))] ++ pl) _ := hP
    have hD : va_D _ ([(a, .inl (g.2.1 2, 1, .inr (.inl (vp_updL f (nI 0).toNatClampNeg ((r9).toInt64)))))] ++ pl) := hD
    refine lv_goto (tgt := 17) hx hb dL_alter_10 (by decide) ?_
    refine lv_iconst (v := nI 0) hx hb dL_alter_17 (by decide) ?_
    exact mp_iret hx hb hr hlk hP hD hS ((q9, vp_updL f (nI 0).toNatClampNeg ((r9).toInt64)), pl) ⟨⟨eq9, ez9.symm, hF9, fun _ => outN (f := f) (congrArg Int32.toInt64 er9), hx8.trans (congrArg nI ey8)⟩, hO⟩ [0] rfl rfl rfl (by omega) (by omega) dL_alter_18
  · obtain ⟨k9, ek9, hk9⟩ := xls_inv hex9
    rcases k9 with _ | k9
    · have h9 : "java/lang/IndexOutOfBoundsException" = ex9 := by simpa using hk9
      subst h9
      obtain ⟨pre9, x9, suf9, hsp, hpr, hx9⟩ := lc_at htab 0 rfl
      have hx1 : x9.startPc = 0 := congrArg (fun q => q.1) hx9
      have hx2 : x9.endPc = 10 := congrArg (fun q => q.2.1) hx9
      have hx3 : x9.handlerPc = 13 := congrArg (fun q => q.2.2.1) hx9
      have hx4 : x9.catchType = 29 := congrArg (fun q => q.2.2.2) hx9
      refine ⟨pre9, x9, suf9, "java/lang/IndexOutOfBoundsException", hsp, (fun z9 hz9 => ?_), (by simp only [covers, hx1, hx2]; decide), (by rw [hx4]; decide), (by rw [hx4]; exact hts _ (wg_t kw_530)), va_Nw.use rfl (hX.2.2.2.2.1 "java/lang/IndexOutOfBoundsException" (by decide)), (fun q9 u9 H locs hu9 hP hD hS => ?_)⟩
      · have hc9 := hpr z9 hz9
        exact absurd hc9 (by simp)
      · rw [hx3]
        obtain ⟨q8, pl⟩ := u9
        obtain ⟨⟨eq9, hF9, -, -, ⟨x8, hx8, ey8⟩, -⟩, hO⟩ := hu9
        have eq9 : q8 = F_K_alter v v2 s := eq9
        have hP : va_P g.1 vcl ([(a, .inl (g.2.1 2, 1, .inr (.inl f)))] ++ pl) _ := hP
        have hD : va_D _ ([(a, .inl (g.2.1 2, 1, .inr (.inl f)))] ++ pl) := hD
        refine W.widen (k := 1) (n := 6) (by omega) (by omega) ?_
        refine lv_astore (lv' := [(4, .ref q9), (0, .ref h0), (1, .int v), (2, .int v2), (3, .ref a)]) hx hb dL_alter_13 hl (by decide) rfl (fun ls hl => ?_)
        refine lv_iconst (v := nI 1) hx hb dL_alter_15 (by decide) ?_
        exact mp_iret hx hb hr hlk hP hD hS ((q8, f), pl) ⟨⟨eq9, (by rw [eq9]; exact ek9.symm), hF9, fun h9 => absurd ((congrArg Prod.fst eq9).trans ek9 |>.symm.trans h9) (by decide), hx8.trans (congrArg nI ey8)⟩, hO⟩ [0] rfl rfl rfl (by omega) (by omega) dL_alter_16
    · exact absurd hk9 (by simp)
set_option maxHeartbeats 2000000 in
theorem ln_feed (l : Launch) (htr : l.stackTraces = false) (g : Gd) (sz : Nat) (T : TyN) (s : Sto) (pl : va_W) (hO : okn g T s pl) (hU : inj T) (h0 : Nat) (v1 : Int32) (v2 : Int32) (v3 : Int32) (v4 : Int32) (v5 : Int32) (a : Nat) (f : Nat → Int64) (tl al pn : Nat) (k_h0 : T h0 = some 0) (e_tl : s.1 0 1 = nI tl) (e_al : s.1 0 3 = nI al) (e_pn : s.1 0 5 = nI pn) (h1 : tl ≤ 16384) (h2 : al ≤ 8192) (h3 : pn ≤ 8) : Met l y_L_feed w_L_feed ({ frames := 7, cells := 1, slots := 6, locals := 115 } : Room) (va_Pc [.ref h0, .int v1, .int v2, .int v3, .int v4, .int v5, .ref a] (pr (ex g) g.1 vcl sz ([(a, .inl (g.2.1 2, 1, .inr (.inl f)))] ++ pl))) (va_Qi (fun (r : Int32) (u : ((Int32 × Int32 × Sto) × (Nat → Int64)) × va_W) => (u.1.1 = F_K_feed v1 v2 v3 v4 v5 s ∧ r = u.1.1.1 ∧ frm M_K_feed s u.1.1.2.2 ∧ (u.1.1.1 = nI 0 → u.1.2 0 = u.1.1.2.1.toInt64) ∧ u.1.1.2.2.1 0 5 = nI pn) ∧ okn g T u.1.1.2.2 u.2) (po g.1 vcl (va_A ([(a, .inl (g.2.1 2, 1, .inr (.inl f)))] ++ pl) sz) (fun (u : ((Int32 × Int32 × Sto) × (Nat → Int64)) × va_W) => [(a, .inl (g.2.1 2, 1, .inr (.inl u.1.2)))] ++ u.2)) (va_A ([(a, .inl (g.2.1 2, 1, .inr (.inl f)))] ++ pl) sz)) 1 6 (va_A ([(a, .inl (g.2.1 2, 1, .inr (.inl f)))] ++ pl) sz) := by
  refine lc_entry (cc := c_L_feed) (maxL := 8) (ret := (some .int)) (hh := [(0, 16, 19, 13)]) (by decide) rfl (Nat.le_of_ble_eq_true rfl) ?_
  intro p e s0 m args below meth c ls F hr hlk htab hsz hP hD hX hA hl
  obtain ⟨hx, hb, hml, hown, hts⟩ := id F
  have hE := hX.1
  have hK := hE.1
  generalize va_A ([(a, .inl (g.2.1 2, 1, .inr (.inl f)))] ++ pl) sz = A at hD hX hE hA ⊢
  have hS : va_S A s0.heap s0.heap [] := va_S.rf
  have hl : lv_has ls 8 [(0, .ref h0), (1, .int v1), (2, .int v2), (3, .int v3), (4, .int v4), (5, .int v5), (6, .ref a)] := hl
  refine lv_aload hx hb dL_feed_0 (lv_at hl 6 rfl) ?_
  refine lv_iconst (v := nI 0) hx hb dL_feed_2 (by decide) ?_
  refine lv_aload_n hx hb dL_feed_3 rfl (lv_at hl 0 rfl) ?_
  refine lv_iload_n hx hb dL_feed_4 rfl (lv_at hl 1 rfl) ?_
  refine lv_iload_n hx hb dL_feed_5 rfl (lv_at hl 2 rfl) ?_
  refine lv_iload_n hx hb dL_feed_6 rfl (lv_at hl 3 rfl) ?_
  refine lv_iload hx hb dL_feed_7 (lv_at hl 4 rfl) ?_
  refine lv_iload hx hb dL_feed_9 (lv_at hl 5 rfl) ?_
  refine et_i (cx := []) (wr := [(a, .inl (g.2.1 2, 1, .inr (.inl f)))]) (own := "LatticeKeysLaw") (C := "LatticeKeys") (As := [.int v1, .int v2, .int v3, .int v4, .int v5]) (rest := [.int (nI 0), .ref a]) hP hD hS hA [] [0] rfl rfl rfl (by decide) F (N_K_feed l htr g _ T s pl hO hU h0 v1 v2 v3 v4 v5 tl al pn k_h0 e_tl e_al e_pn h1 h2 h3) (cwV 5 hts (wg_app (wg_c kw_416 (wg_c kw_417 (wg_c kw_418 (wg_c kw_1 wg_n)))) kw_419) rfl rfl rfl (by decide +kernel) ⟨by decide, by decide⟩) (pn_V (ex_ok g) hK hO k_h0 rfl hP hD hS hA hX [] rfl rfl rfl) rfl hl.1 rfl (Nat.le_of_ble_eq_true rfl) dL_feed_11 ⟨Nat.le_of_ble_eq_true rfl, Nat.le_of_ble_eq_true rfl⟩ (fun r9 u9 H locs hu9 hP hD hS => ?_) (fun ex9 hex9 => ?_)
  · obtain ⟨q9, pl⟩ := u9
    obtain ⟨⟨eq9, er9, ez9, hF9, -, -, ⟨x8, hx8, ey8⟩, -⟩, hO⟩ := hu9
    have hP : va_P g.1 vcl ([(a, .inl (g.2.1 2, 1, .inr (.inl f)))] ++ pl) _ := hP
    have hD : va_D _ ([(a, .inl (g.2.1 2, 1, .inr (.inl f)))] ++ pl) := hD
    refine W.widen (k := 1) (n := 6) (by omega) (by omega) ?_
    refine lv_i2l (v := (r9).toInt64) hx hb dL_feed_14 rfl ?_
    refine va_last hx hb hK hP hD hS 0 2 rfl rfl (vp_in_nI (by decide) (by decide)) dL_feed_15 (fun H locs hP hD hS => ?_)
    have hP : va_P g.1 vcl ([(a, .inl (g.2.1 2, 1, .inr (.inl (vp_updL f (nI 0).toNatClampNeg ((r9).toInt64)))))] ++ pl) _ := hP
    have hD : va_D _ ([(a, .inl (g.2.1 2, 1, .inr (.inl (vp_updL f (nI 0).toNatClampNeg ((r9).toInt64)))))] ++ pl) := hD
    refine lv_goto (tgt := 23) hx hb dL_feed_16 (by decide) ?_
    refine lv_iconst (v := nI 0) hx hb dL_feed_23 (by decide) ?_
    exact mp_iret hx hb hr hlk hP hD hS ((q9, vp_updL f (nI 0).toNatClampNeg ((r9).toInt64)), pl) ⟨⟨eq9, ez9.symm, hF9, fun _ => outN (f := f) (congrArg Int32.toInt64 er9), hx8.trans (congrArg nI ey8)⟩, hO⟩ [0] rfl rfl rfl (by omega) (by omega) dL_feed_24
  · obtain ⟨k9, ek9, hk9⟩ := xls_inv hex9
    rcases k9 with _ | k9
    · have h9 : "java/lang/IllegalStateException" = ex9 := by simpa using hk9
      subst h9
      obtain ⟨pre9, x9, suf9, hsp, hpr, hx9⟩ := lc_at htab 0 rfl
      have hx1 : x9.startPc = 0 := congrArg (fun q => q.1) hx9
      have hx2 : x9.endPc = 16 := congrArg (fun q => q.2.1) hx9
      have hx3 : x9.handlerPc = 19 := congrArg (fun q => q.2.2.1) hx9
      have hx4 : x9.catchType = 13 := congrArg (fun q => q.2.2.2) hx9
      refine ⟨pre9, x9, suf9, "java/lang/IllegalStateException", hsp, (fun z9 hz9 => ?_), (by simp only [covers, hx1, hx2]; decide), (by rw [hx4]; decide), (by rw [hx4]; exact hts _ (wg_t kw_415)), va_Nw.use rfl (hX.2.2.2.2.1 "java/lang/IllegalStateException" (by decide)), (fun q9 u9 H locs hu9 hP hD hS => ?_)⟩
      · have hc9 := hpr z9 hz9
        exact absurd hc9 (by simp)
      · rw [hx3]
        obtain ⟨q8, pl⟩ := u9
        obtain ⟨⟨eq9, hF9, -, -, ⟨x8, hx8, ey8⟩, -⟩, hO⟩ := hu9
        have eq9 : q8 = F_K_feed v1 v2 v3 v4 v5 s := eq9
        have hP : va_P g.1 vcl ([(a, .inl (g.2.1 2, 1, .inr (.inl f)))] ++ pl) _ := hP
        have hD : va_D _ ([(a, .inl (g.2.1 2, 1, .inr (.inl f)))] ++ pl) := hD
        refine W.widen (k := 1) (n := 6) (by omega) (by omega) ?_
        refine lv_astore (lv' := [(7, .ref q9), (0, .ref h0), (1, .int v1), (2, .int v2), (3, .int v3), (4, .int v4), (5, .int v5), (6, .ref a)]) hx hb dL_feed_19 hl (by decide) rfl (fun ls hl => ?_)
        refine lv_iconst (v := nI 1) hx hb dL_feed_21 (by decide) ?_
        exact mp_iret hx hb hr hlk hP hD hS ((q8, f), pl) ⟨⟨eq9, (by rw [eq9]; exact ek9.symm), hF9, fun h9 => absurd ((congrArg Prod.fst eq9).trans ek9 |>.symm.trans h9) (by decide), hx8.trans (congrArg nI ey8)⟩, hO⟩ [0] rfl rfl rfl (by omega) (by omega) dL_feed_22
    · exact absurd hk9 (by simp)
set_option maxHeartbeats 2000000 in
theorem ln_hash (l : Launch) (htr : l.stackTraces = false) (g : Gd) (sz : Nat) (T : TyN) (s : Sto) (pl : va_W) (hO : okn g T s pl) (hU : inj T) (h0 : Nat) (v : Int32) (v2 : Int32) (a : Nat) (f : Nat → Int64) (tl al pn : Nat) (k_h0 : T h0 = some 0) (e_tl : s.1 0 1 = nI tl) (e_al : s.1 0 3 = nI al) (e_pn : s.1 0 5 = nI pn) (h1 : tl ≤ 16384) (h2 : al ≤ 8192) (h3 : pn ≤ 8) : Met l y_L_hash w_L_hash ({ frames := 7, cells := 1, slots := 6, locals := 122 } : Room) (va_Pc [.ref h0, .int v, .int v2, .ref a] (pr (ex g) g.1 vcl sz ([(a, .inl (g.2.1 2, 1, .inr (.inl f)))] ++ pl))) (va_Qi (fun (r : Int32) (u : ((Int32 × Int32 × Sto) × (Nat → Int64)) × va_W) => (u.1.1 = F_K_hash v v2 s ∧ r = u.1.1.1 ∧ frm M_K_hash s u.1.1.2.2 ∧ (u.1.1.1 = nI 0 → u.1.2 0 = u.1.1.2.1.toInt64) ∧ u.1.1.2.2.1 0 5 = nI pn) ∧ okn g T u.1.1.2.2 u.2) (po g.1 vcl (va_A ([(a, .inl (g.2.1 2, 1, .inr (.inl f)))] ++ pl) sz) (fun (u : ((Int32 × Int32 × Sto) × (Nat → Int64)) × va_W) => [(a, .inl (g.2.1 2, 1, .inr (.inl u.1.2)))] ++ u.2)) (va_A ([(a, .inl (g.2.1 2, 1, .inr (.inl f)))] ++ pl) sz)) 1 6 (va_A ([(a, .inl (g.2.1 2, 1, .inr (.inl f)))] ++ pl) sz) := by
  refine lc_entry (cc := c_L_hash) (maxL := 5) (ret := (some .int)) (hh := [(0, 10, 13, 19)]) (by decide) rfl (Nat.le_of_ble_eq_true rfl) ?_
  intro p e s0 m args below meth c ls F hr hlk htab hsz hP hD hX hA hl
  obtain ⟨hx, hb, hml, hown, hts⟩ := id F
  have hE := hX.1
  have hK := hE.1
  generalize va_A ([(a, .inl (g.2.1 2, 1, .inr (.inl f)))] ++ pl) sz = A at hD hX hE hA ⊢
  have hS : va_S A s0.heap s0.heap [] := va_S.rf
  have hl : lv_has ls 5 [(0, .ref h0), (1, .int v), (2, .int v2), (3, .ref a)] := hl
  refine lv_aload_n hx hb dL_hash_0 rfl (lv_at hl 3 rfl) ?_
  refine lv_iconst (v := nI 0) hx hb dL_hash_1 (by decide) ?_
  refine lv_aload_n hx hb dL_hash_2 rfl (lv_at hl 0 rfl) ?_
  refine lv_iload_n hx hb dL_hash_3 rfl (lv_at hl 1 rfl) ?_
  refine lv_iload_n hx hb dL_hash_4 rfl (lv_at hl 2 rfl) ?_
  refine et_i (cx := []) (wr := [(a, .inl (g.2.1 2, 1, .inr (.inl f)))]) (own := "LatticeKeysLaw") (C := "LatticeKeys") (As := [.int v, .int v2]) (rest := [.int (nI 0), .ref a]) hP hD hS hA [] [0] rfl rfl rfl (by decide) F (N_K_hash l htr g _ T s pl hO hU h0 v v2 tl al pn k_h0 e_tl e_al e_pn h1 h2 h3) (cwV 2 hts (wg_app (wg_c kw_1294 (wg_c kw_1295 (wg_c kw_1296 (wg_c kw_1 wg_n)))) kw_1297) rfl rfl rfl (by decide +kernel) ⟨by decide, by decide⟩) (pn_V (ex_ok g) hK hO k_h0 rfl hP hD hS hA hX [] rfl rfl rfl) rfl hl.1 rfl (Nat.le_of_ble_eq_true rfl) dL_hash_5 ⟨Nat.le_of_ble_eq_true rfl, Nat.le_of_ble_eq_true rfl⟩ (fun r9 u9 H locs hu9 hP hD hS => ?_) (fun ex9 hex9 => ?_)
  · obtain ⟨q9, pl⟩ := u9
    obtain ⟨⟨eq9, er9, ez9, hF9, -, -, ⟨x8, hx8, ey8⟩, -⟩, hO⟩ := hu9
    have hP : va_P g.1 vcl ([(a, .inl (g.2.1 2, 1, .inr (.inl f)))] ++ pl) _ := hP
    have hD : va_D _ ([(a, .inl (g.2.1 2, 1, .inr (.inl f)))] ++ pl) := hD
    refine W.widen (k := 1) (n := 6) (by omega) (by omega) ?_
    refine lv_i2l (v := (r9).toInt64) hx hb dL_hash_8 rfl ?_
    refine va_last hx hb hK hP hD hS 0 2 rfl rfl (vp_in_nI (by decide) (by decide)) dL_hash_9 (fun H locs hP hD hS => ?_)
    have hP : va_P g.1 vcl ([(a, .inl (g.2.1 2, 1, .inr (.inl (vp_updL f (nI 0).toNatClampNeg ((r9).toInt64)))))] ++ pl) _ := hP
    have hD : va_D _ ([(a, .inl (g.2.1 2, 1, .inr (.inl (vp_updL f (nI 0).toNatClampNeg ((r9).toInt64)))))] ++ pl) := hD
    refine lv_goto (tgt := 17) hx hb dL_hash_10 (by decide) ?_
    refine lv_iconst (v := nI 0) hx hb dL_hash_17 (by decide) ?_
    exact mp_iret hx hb hr hlk hP hD hS ((q9, vp_updL f (nI 0).toNatClampNeg ((r9).toInt64)), pl) ⟨⟨eq9, ez9.symm, hF9, fun _ => outN (f := f) (congrArg Int32.toInt64 er9), hx8.trans (congrArg nI ey8)⟩, hO⟩ [0] rfl rfl rfl (by omega) (by omega) dL_hash_18
  · obtain ⟨k9, ek9, hk9⟩ := xls_inv hex9
    rcases k9 with _ | k9
    · have h9 : "java/lang/IllegalArgumentException" = ex9 := by simpa using hk9
      subst h9
      obtain ⟨pre9, x9, suf9, hsp, hpr, hx9⟩ := lc_at htab 0 rfl
      have hx1 : x9.startPc = 0 := congrArg (fun q => q.1) hx9
      have hx2 : x9.endPc = 10 := congrArg (fun q => q.2.1) hx9
      have hx3 : x9.handlerPc = 13 := congrArg (fun q => q.2.2.1) hx9
      have hx4 : x9.catchType = 19 := congrArg (fun q => q.2.2.2) hx9
      refine ⟨pre9, x9, suf9, "java/lang/IllegalArgumentException", hsp, (fun z9 hz9 => ?_), (by simp only [covers, hx1, hx2]; decide), (by rw [hx4]; decide), (by rw [hx4]; exact hts _ (wg_t kw_496)), va_Nw.use rfl (hX.2.2.2.2.1 "java/lang/IllegalArgumentException" (by decide)), (fun q9 u9 H locs hu9 hP hD hS => ?_)⟩
      · have hc9 := hpr z9 hz9
        exact absurd hc9 (by simp)
      · rw [hx3]
        obtain ⟨q8, pl⟩ := u9
        obtain ⟨⟨eq9, hF9, -, -, ⟨x8, hx8, ey8⟩, -⟩, hO⟩ := hu9
        have eq9 : q8 = F_K_hash v v2 s := eq9
        have hP : va_P g.1 vcl ([(a, .inl (g.2.1 2, 1, .inr (.inl f)))] ++ pl) _ := hP
        have hD : va_D _ ([(a, .inl (g.2.1 2, 1, .inr (.inl f)))] ++ pl) := hD
        refine W.widen (k := 1) (n := 6) (by omega) (by omega) ?_
        refine lv_astore (lv' := [(4, .ref q9), (0, .ref h0), (1, .int v), (2, .int v2), (3, .ref a)]) hx hb dL_hash_13 hl (by decide) rfl (fun ls hl => ?_)
        refine lv_iconst (v := nI 1) hx hb dL_hash_15 (by decide) ?_
        exact mp_iret hx hb hr hlk hP hD hS ((q8, f), pl) ⟨⟨eq9, (by rw [eq9]; exact ek9.symm), hF9, fun h9 => absurd ((congrArg Prod.fst eq9).trans ek9 |>.symm.trans h9) (by decide), hx8.trans (congrArg nI ey8)⟩, hO⟩ [0] rfl rfl rfl (by omega) (by omega) dL_hash_16
    · exact absurd hk9 (by simp)
set_option maxHeartbeats 2000000 in
theorem ln_seal (l : Launch) (htr : l.stackTraces = false) (g : Gd) (sz : Nat) (T : TyN) (s : Sto) (pl : va_W) (hO : okn g T s pl) (hU : inj T) (h0 : Nat) (v : Int32) (a : Nat) (f : Nat → Int64) (tl al pn : Nat) (k_h0 : T h0 = some 0) (e_tl : s.1 0 1 = nI tl) (e_al : s.1 0 3 = nI al) (e_pn : s.1 0 5 = nI pn) (h1 : tl ≤ 16384) (h2 : al ≤ 8192) (h3 : pn ≤ 8) : Met l y_L_seal w_L_seal ({ frames := 7, cells := 1, slots := 6, locals := 203 } : Room) (va_Pc [.ref h0, .int v, .ref a] (pr (ex g) g.1 vcl sz ([(a, .inl (g.2.1 2, 1, .inr (.inl f)))] ++ pl))) (va_Qi (fun (r : Int32) (u : ((Int32 × Int32 × Sto) × (Nat → Int64)) × va_W) => (u.1.1 = F_K_seal v s ∧ r = u.1.1.1 ∧ frm M_K_seal s u.1.1.2.2 ∧ (u.1.1.1 = nI 0 → u.1.2 0 = u.1.1.2.1.toInt64) ∧ u.1.1.2.2.1 0 5 = nI pn) ∧ okn g T u.1.1.2.2 u.2) (po g.1 vcl (va_A ([(a, .inl (g.2.1 2, 1, .inr (.inl f)))] ++ pl) sz) (fun (u : ((Int32 × Int32 × Sto) × (Nat → Int64)) × va_W) => [(a, .inl (g.2.1 2, 1, .inr (.inl u.1.2)))] ++ u.2)) (va_A ([(a, .inl (g.2.1 2, 1, .inr (.inl f)))] ++ pl) sz)) 1 6 (va_A ([(a, .inl (g.2.1 2, 1, .inr (.inl f)))] ++ pl) sz) := by
  refine lc_entry (cc := c_L_seal) (maxL := 4) (ret := (some .int)) (hh := [(0, 9, 12, 44), (0, 9, 15, 19)]) (by decide) rfl (Nat.le_of_ble_eq_true rfl) ?_
  intro p e s0 m args below meth c ls F hr hlk htab hsz hP hD hX hA hl
  obtain ⟨hx, hb, hml, hown, hts⟩ := id F
  have hE := hX.1
  have hK := hE.1
  generalize va_A ([(a, .inl (g.2.1 2, 1, .inr (.inl f)))] ++ pl) sz = A at hD hX hE hA ⊢
  have hS : va_S A s0.heap s0.heap [] := va_S.rf
  have hl : lv_has ls 4 [(0, .ref h0), (1, .int v), (2, .ref a)] := hl
  refine lv_aload_n hx hb dL_seal_0 rfl (lv_at hl 2 rfl) ?_
  refine lv_iconst (v := nI 0) hx hb dL_seal_1 (by decide) ?_
  refine lv_aload_n hx hb dL_seal_2 rfl (lv_at hl 0 rfl) ?_
  refine lv_iload_n hx hb dL_seal_3 rfl (lv_at hl 1 rfl) ?_
  refine et_i (cx := []) (wr := [(a, .inl (g.2.1 2, 1, .inr (.inl f)))]) (own := "LatticeKeysLaw") (C := "LatticeKeys") (As := [.int v]) (rest := [.int (nI 0), .ref a]) hP hD hS hA [] [0] rfl rfl rfl (by decide) F (N_K_seal l htr g _ T s pl hO hU h0 v tl al pn k_h0 e_tl e_al e_pn h1 h2 h3) (cwV 1 hts (wg_app (wg_c kw_1100 (wg_c kw_1101 (wg_c kw_1102 (wg_c kw_1 wg_n)))) kw_1103) rfl rfl rfl (by decide +kernel) ⟨by decide, by decide⟩) (pn_V (ex_ok g) hK hO k_h0 rfl hP hD hS hA hX [] rfl rfl rfl) rfl hl.1 rfl (Nat.le_of_ble_eq_true rfl) dL_seal_4 ⟨Nat.le_of_ble_eq_true rfl, Nat.le_of_ble_eq_true rfl⟩ (fun r9 u9 H locs hu9 hP hD hS => ?_) (fun ex9 hex9 => ?_)
  · obtain ⟨q9, pl⟩ := u9
    obtain ⟨⟨eq9, er9, ez9, hF9, -, -, ⟨x8, hx8, ey8⟩, -⟩, hO⟩ := hu9
    have hP : va_P g.1 vcl ([(a, .inl (g.2.1 2, 1, .inr (.inl f)))] ++ pl) _ := hP
    have hD : va_D _ ([(a, .inl (g.2.1 2, 1, .inr (.inl f)))] ++ pl) := hD
    refine W.widen (k := 1) (n := 6) (by omega) (by omega) ?_
    refine lv_i2l (v := (r9).toInt64) hx hb dL_seal_7 rfl ?_
    refine va_last hx hb hK hP hD hS 0 2 rfl rfl (vp_in_nI (by decide) (by decide)) dL_seal_8 (fun H locs hP hD hS => ?_)
    have hP : va_P g.1 vcl ([(a, .inl (g.2.1 2, 1, .inr (.inl (vp_updL f (nI 0).toNatClampNeg ((r9).toInt64)))))] ++ pl) _ := hP
    have hD : va_D _ ([(a, .inl (g.2.1 2, 1, .inr (.inl (vp_updL f (nI 0).toNatClampNeg ((r9).toInt64)))))] ++ pl) := hD
    refine lv_goto (tgt := 18) hx hb dL_seal_9 (by decide) ?_
    refine lv_iconst (v := nI 0) hx hb dL_seal_18 (by decide) ?_
    exact mp_iret hx hb hr hlk hP hD hS ((q9, vp_updL f (nI 0).toNatClampNeg ((r9).toInt64)), pl) ⟨⟨eq9, ez9.symm, hF9, fun _ => outN (f := f) (congrArg Int32.toInt64 er9), hx8.trans (congrArg nI ey8)⟩, hO⟩ [0] rfl rfl rfl (by omega) (by omega) dL_seal_19
  · obtain ⟨k9, ek9, hk9⟩ := xls_inv hex9
    rcases k9 with _ | _ | k9
    · have h9 : "java/util/NoSuchElementException" = ex9 := by simpa using hk9
      subst h9
      obtain ⟨pre9, x9, suf9, hsp, hpr, hx9⟩ := lc_at htab 0 rfl
      have hx1 : x9.startPc = 0 := congrArg (fun q => q.1) hx9
      have hx2 : x9.endPc = 9 := congrArg (fun q => q.2.1) hx9
      have hx3 : x9.handlerPc = 12 := congrArg (fun q => q.2.2.1) hx9
      have hx4 : x9.catchType = 44 := congrArg (fun q => q.2.2.2) hx9
      refine ⟨pre9, x9, suf9, "java/util/NoSuchElementException", hsp, (fun z9 hz9 => ?_), (by simp only [covers, hx1, hx2]; decide), (by rw [hx4]; decide), (by rw [hx4]; exact hts _ (wg_t kw_1051)), va_Nw.use rfl (hX.2.2.2.2.1 "java/util/NoSuchElementException" (by decide)), (fun q9 u9 H locs hu9 hP hD hS => ?_)⟩
      · have hc9 := hpr z9 hz9
        exact absurd hc9 (by simp)
      · rw [hx3]
        obtain ⟨q8, pl⟩ := u9
        obtain ⟨⟨eq9, hF9, -, -, ⟨x8, hx8, ey8⟩, -⟩, hO⟩ := hu9
        have eq9 : q8 = F_K_seal v s := eq9
        have hP : va_P g.1 vcl ([(a, .inl (g.2.1 2, 1, .inr (.inl f)))] ++ pl) _ := hP
        have hD : va_D _ ([(a, .inl (g.2.1 2, 1, .inr (.inl f)))] ++ pl) := hD
        refine W.widen (k := 1) (n := 6) (by omega) (by omega) ?_
        refine lv_astore_n (lv' := [(3, .ref q9), (0, .ref h0), (1, .int v), (2, .ref a)]) hx hb dL_seal_12 rfl hl (by decide) rfl (fun ls hl => ?_)
        refine lv_iconst (v := nI 1) hx hb dL_seal_13 (by decide) ?_
        exact mp_iret hx hb hr hlk hP hD hS ((q8, f), pl) ⟨⟨eq9, (by rw [eq9]; exact ek9.symm), hF9, fun h9 => absurd ((congrArg Prod.fst eq9).trans ek9 |>.symm.trans h9) (by decide), hx8.trans (congrArg nI ey8)⟩, hO⟩ [0] rfl rfl rfl (by omega) (by omega) dL_seal_14
    · have h9 : "java/lang/IllegalArgumentException" = ex9 := by simpa using hk9
      subst h9
      obtain ⟨pre9, x9, suf9, hsp, hpr, hx9⟩ := lc_at htab 1 rfl
      have hx1 : x9.startPc = 0 := congrArg (fun q => q.1) hx9
      have hx2 : x9.endPc = 9 := congrArg (fun q => q.2.1) hx9
      have hx3 : x9.handlerPc = 15 := congrArg (fun q => q.2.2.1) hx9
      have hx4 : x9.catchType = 19 := congrArg (fun q => q.2.2.2) hx9
      refine ⟨pre9, x9, suf9, "java/lang/IllegalArgumentException", hsp, (fun z9 hz9 => ?_), (by simp only [covers, hx1, hx2]; decide), (by rw [hx4]; decide), (by rw [hx4]; exact hts _ (wg_t kw_496)), va_Nw.use rfl (hX.2.2.2.2.1 "java/lang/IllegalArgumentException" (by decide)), (fun q9 u9 H locs hu9 hP hD hS => ?_)⟩
      · have hc9 := hpr z9 hz9
        simp only [List.take, List.map, List.mem_cons, List.not_mem_nil, or_false] at hc9
        rw [hc9]; exact ⟨by decide, "java/util/NoSuchElementException", hts _ (wg_t kw_1051), hX.2.2.2.2.2.2.2.2 ("java/lang/IllegalArgumentException", "java/util/NoSuchElementException") (by decide)⟩
      · rw [hx3]
        obtain ⟨q8, pl⟩ := u9
        obtain ⟨⟨eq9, hF9, -, -, ⟨x8, hx8, ey8⟩, -⟩, hO⟩ := hu9
        have eq9 : q8 = F_K_seal v s := eq9
        have hP : va_P g.1 vcl ([(a, .inl (g.2.1 2, 1, .inr (.inl f)))] ++ pl) _ := hP
        have hD : va_D _ ([(a, .inl (g.2.1 2, 1, .inr (.inl f)))] ++ pl) := hD
        refine W.widen (k := 1) (n := 6) (by omega) (by omega) ?_
        refine lv_astore_n (lv' := [(3, .ref q9), (0, .ref h0), (1, .int v), (2, .ref a)]) hx hb dL_seal_15 rfl hl (by decide) rfl (fun ls hl => ?_)
        refine lv_iconst (v := nI 2) hx hb dL_seal_16 (by decide) ?_
        exact mp_iret hx hb hr hlk hP hD hS ((q8, f), pl) ⟨⟨eq9, (by rw [eq9]; exact ek9.symm), hF9, fun h9 => absurd ((congrArg Prod.fst eq9).trans ek9 |>.symm.trans h9) (by decide), hx8.trans (congrArg nI ey8)⟩, hO⟩ [0] rfl rfl rfl (by omega) (by omega) dL_seal_17
    · exact absurd hk9 (by simp)
set_option maxHeartbeats 2000000 in
theorem ln_open (l : Launch) (htr : l.stackTraces = false) (g : Gd) (sz : Nat) (T : TyN) (s : Sto) (pl : va_W) (hO : okn g T s pl) (hU : inj T) (h0 : Nat) (v : Int32) (a : Nat) (f : Nat → Int64) (tl al pn : Nat) (k_h0 : T h0 = some 0) (e_tl : s.1 0 1 = nI tl) (e_al : s.1 0 3 = nI al) (e_pn : s.1 0 5 = nI pn) (h1 : tl ≤ 16384) (h2 : al ≤ 8192) (h3 : pn ≤ 8) : Met l y_L_open w_L_open ({ frames := 7, cells := 1, slots := 6, locals := 205 } : Room) (va_Pc [.ref h0, .int v, .ref a] (pr (ex g) g.1 vcl sz ([(a, .inl (g.2.1 2, 1, .inr (.inl f)))] ++ pl))) (va_Qi (fun (r : Int32) (u : ((Int32 × Int32 × Sto) × (Nat → Int64)) × va_W) => (u.1.1 = F_K_open v s ∧ r = u.1.1.1 ∧ frm M_K_open s u.1.1.2.2 ∧ (u.1.1.1 = nI 0 → u.1.2 0 = u.1.1.2.1.toInt64) ∧ u.1.1.2.2.1 0 5 = nI pn) ∧ okn g T u.1.1.2.2 u.2) (po g.1 vcl (va_A ([(a, .inl (g.2.1 2, 1, .inr (.inl f)))] ++ pl) sz) (fun (u : ((Int32 × Int32 × Sto) × (Nat → Int64)) × va_W) => [(a, .inl (g.2.1 2, 1, .inr (.inl u.1.2)))] ++ u.2)) (va_A ([(a, .inl (g.2.1 2, 1, .inr (.inl f)))] ++ pl) sz)) 1 6 (va_A ([(a, .inl (g.2.1 2, 1, .inr (.inl f)))] ++ pl) sz) := by
  refine lc_entry (cc := c_L_open) (maxL := 4) (ret := (some .int)) (hh := [(0, 9, 12, 44), (0, 9, 15, 19)]) (by decide) rfl (Nat.le_of_ble_eq_true rfl) ?_
  intro p e s0 m args below meth c ls F hr hlk htab hsz hP hD hX hA hl
  obtain ⟨hx, hb, hml, hown, hts⟩ := id F
  have hE := hX.1
  have hK := hE.1
  generalize va_A ([(a, .inl (g.2.1 2, 1, .inr (.inl f)))] ++ pl) sz = A at hD hX hE hA ⊢
  have hS : va_S A s0.heap s0.heap [] := va_S.rf
  have hl : lv_has ls 4 [(0, .ref h0), (1, .int v), (2, .ref a)] := hl
  refine lv_aload_n hx hb dL_open_0 rfl (lv_at hl 2 rfl) ?_
  refine lv_iconst (v := nI 0) hx hb dL_open_1 (by decide) ?_
  refine lv_aload_n hx hb dL_open_2 rfl (lv_at hl 0 rfl) ?_
  refine lv_iload_n hx hb dL_open_3 rfl (lv_at hl 1 rfl) ?_
  refine et_i (cx := []) (wr := [(a, .inl (g.2.1 2, 1, .inr (.inl f)))]) (own := "LatticeKeysLaw") (C := "LatticeKeys") (As := [.int v]) (rest := [.int (nI 0), .ref a]) hP hD hS hA [] [0] rfl rfl rfl (by decide) F (N_K_open l htr g _ T s pl hO hU h0 v tl al pn k_h0 e_tl e_al e_pn h1 h2 h3) (cwV 1 hts (wg_app (wg_c kw_1140 (wg_c kw_1141 (wg_c kw_1142 (wg_c kw_1 wg_n)))) kw_1143) rfl rfl rfl (by decide +kernel) ⟨by decide, by decide⟩) (pn_V (ex_ok g) hK hO k_h0 rfl hP hD hS hA hX [] rfl rfl rfl) rfl hl.1 rfl (Nat.le_of_ble_eq_true rfl) dL_open_4 ⟨Nat.le_of_ble_eq_true rfl, Nat.le_of_ble_eq_true rfl⟩ (fun r9 u9 H locs hu9 hP hD hS => ?_) (fun ex9 hex9 => ?_)
  · obtain ⟨q9, pl⟩ := u9
    obtain ⟨⟨eq9, er9, ez9, hF9, -, -, ⟨x8, hx8, ey8⟩, -⟩, hO⟩ := hu9
    have hP : va_P g.1 vcl ([(a, .inl (g.2.1 2, 1, .inr (.inl f)))] ++ pl) _ := hP
    have hD : va_D _ ([(a, .inl (g.2.1 2, 1, .inr (.inl f)))] ++ pl) := hD
    refine W.widen (k := 1) (n := 6) (by omega) (by omega) ?_
    refine lv_i2l (v := (r9).toInt64) hx hb dL_open_7 rfl ?_
    refine va_last hx hb hK hP hD hS 0 2 rfl rfl (vp_in_nI (by decide) (by decide)) dL_open_8 (fun H locs hP hD hS => ?_)
    have hP : va_P g.1 vcl ([(a, .inl (g.2.1 2, 1, .inr (.inl (vp_updL f (nI 0).toNatClampNeg ((r9).toInt64)))))] ++ pl) _ := hP
    have hD : va_D _ ([(a, .inl (g.2.1 2, 1, .inr (.inl (vp_updL f (nI 0).toNatClampNeg ((r9).toInt64)))))] ++ pl) := hD
    refine lv_goto (tgt := 18) hx hb dL_open_9 (by decide) ?_
    refine lv_iconst (v := nI 0) hx hb dL_open_18 (by decide) ?_
    exact mp_iret hx hb hr hlk hP hD hS ((q9, vp_updL f (nI 0).toNatClampNeg ((r9).toInt64)), pl) ⟨⟨eq9, ez9.symm, hF9, fun _ => outN (f := f) (congrArg Int32.toInt64 er9), hx8.trans (congrArg nI ey8)⟩, hO⟩ [0] rfl rfl rfl (by omega) (by omega) dL_open_19
  · obtain ⟨k9, ek9, hk9⟩ := xls_inv hex9
    rcases k9 with _ | _ | k9
    · have h9 : "java/util/NoSuchElementException" = ex9 := by simpa using hk9
      subst h9
      obtain ⟨pre9, x9, suf9, hsp, hpr, hx9⟩ := lc_at htab 0 rfl
      have hx1 : x9.startPc = 0 := congrArg (fun q => q.1) hx9
      have hx2 : x9.endPc = 9 := congrArg (fun q => q.2.1) hx9
      have hx3 : x9.handlerPc = 12 := congrArg (fun q => q.2.2.1) hx9
      have hx4 : x9.catchType = 44 := congrArg (fun q => q.2.2.2) hx9
      refine ⟨pre9, x9, suf9, "java/util/NoSuchElementException", hsp, (fun z9 hz9 => ?_), (by simp only [covers, hx1, hx2]; decide), (by rw [hx4]; decide), (by rw [hx4]; exact hts _ (wg_t kw_1051)), va_Nw.use rfl (hX.2.2.2.2.1 "java/util/NoSuchElementException" (by decide)), (fun q9 u9 H locs hu9 hP hD hS => ?_)⟩
      · have hc9 := hpr z9 hz9
        exact absurd hc9 (by simp)
      · rw [hx3]
        obtain ⟨q8, pl⟩ := u9
        obtain ⟨⟨eq9, hF9, -, -, ⟨x8, hx8, ey8⟩, -⟩, hO⟩ := hu9
        have eq9 : q8 = F_K_open v s := eq9
        have hP : va_P g.1 vcl ([(a, .inl (g.2.1 2, 1, .inr (.inl f)))] ++ pl) _ := hP
        have hD : va_D _ ([(a, .inl (g.2.1 2, 1, .inr (.inl f)))] ++ pl) := hD
        refine W.widen (k := 1) (n := 6) (by omega) (by omega) ?_
        refine lv_astore_n (lv' := [(3, .ref q9), (0, .ref h0), (1, .int v), (2, .ref a)]) hx hb dL_open_12 rfl hl (by decide) rfl (fun ls hl => ?_)
        refine lv_iconst (v := nI 1) hx hb dL_open_13 (by decide) ?_
        exact mp_iret hx hb hr hlk hP hD hS ((q8, f), pl) ⟨⟨eq9, (by rw [eq9]; exact ek9.symm), hF9, fun h9 => absurd ((congrArg Prod.fst eq9).trans ek9 |>.symm.trans h9) (by decide), hx8.trans (congrArg nI ey8)⟩, hO⟩ [0] rfl rfl rfl (by omega) (by omega) dL_open_14
    · have h9 : "java/lang/IllegalArgumentException" = ex9 := by simpa using hk9
      subst h9
      obtain ⟨pre9, x9, suf9, hsp, hpr, hx9⟩ := lc_at htab 1 rfl
      have hx1 : x9.startPc = 0 := congrArg (fun q => q.1) hx9
      have hx2 : x9.endPc = 9 := congrArg (fun q => q.2.1) hx9
      have hx3 : x9.handlerPc = 15 := congrArg (fun q => q.2.2.1) hx9
      have hx4 : x9.catchType = 19 := congrArg (fun q => q.2.2.2) hx9
      refine ⟨pre9, x9, suf9, "java/lang/IllegalArgumentException", hsp, (fun z9 hz9 => ?_), (by simp only [covers, hx1, hx2]; decide), (by rw [hx4]; decide), (by rw [hx4]; exact hts _ (wg_t kw_496)), va_Nw.use rfl (hX.2.2.2.2.1 "java/lang/IllegalArgumentException" (by decide)), (fun q9 u9 H locs hu9 hP hD hS => ?_)⟩
      · have hc9 := hpr z9 hz9
        simp only [List.take, List.map, List.mem_cons, List.not_mem_nil, or_false] at hc9
        rw [hc9]; exact ⟨by decide, "java/util/NoSuchElementException", hts _ (wg_t kw_1051), hX.2.2.2.2.2.2.2.2 ("java/lang/IllegalArgumentException", "java/util/NoSuchElementException") (by decide)⟩
      · rw [hx3]
        obtain ⟨q8, pl⟩ := u9
        obtain ⟨⟨eq9, hF9, -, -, ⟨x8, hx8, ey8⟩, -⟩, hO⟩ := hu9
        have eq9 : q8 = F_K_open v s := eq9
        have hP : va_P g.1 vcl ([(a, .inl (g.2.1 2, 1, .inr (.inl f)))] ++ pl) _ := hP
        have hD : va_D _ ([(a, .inl (g.2.1 2, 1, .inr (.inl f)))] ++ pl) := hD
        refine W.widen (k := 1) (n := 6) (by omega) (by omega) ?_
        refine lv_astore_n (lv' := [(3, .ref q9), (0, .ref h0), (1, .int v), (2, .ref a)]) hx hb dL_open_15 rfl hl (by decide) rfl (fun ls hl => ?_)
        refine lv_iconst (v := nI 2) hx hb dL_open_16 (by decide) ?_
        exact mp_iret hx hb hr hlk hP hD hS ((q8, f), pl) ⟨⟨eq9, (by rw [eq9]; exact ek9.symm), hF9, fun h9 => absurd ((congrArg Prod.fst eq9).trans ek9 |>.symm.trans h9) (by decide), hx8.trans (congrArg nI ey8)⟩, hO⟩ [0] rfl rfl rfl (by omega) (by omega) dL_open_17
    · exact absurd hk9 (by simp)
set_option maxHeartbeats 2000000 in
theorem ln_sign (l : Launch) (htr : l.stackTraces = false) (g : Gd) (sz : Nat) (T : TyN) (s : Sto) (pl : va_W) (hO : okn g T s pl) (hU : inj T) (h0 : Nat) (v : Int32) (v2 : Int32) (a : Nat) (f : Nat → Int64) (tl al pn : Nat) (k_h0 : T h0 = some 0) (e_tl : s.1 0 1 = nI tl) (e_al : s.1 0 3 = nI al) (e_pn : s.1 0 5 = nI pn) (h1 : tl ≤ 16384) (h2 : al ≤ 8192) (h3 : pn ≤ 8) : Met l y_L_sign w_L_sign ({ frames := 8, cells := 1, slots := 6, locals := 228 } : Room) (va_Pc [.ref h0, .int v, .int v2, .ref a] (pr (ex g) g.1 vcl sz ([(a, .inl (g.2.1 2, 1, .inr (.inl f)))] ++ pl))) (va_Qi (fun (r : Int32) (u : ((Int32 × Int32 × Sto) × (Nat → Int64)) × va_W) => (u.1.1 = F_K_signA v v2 s ∧ r = u.1.1.1 ∧ frm M_K_signA s u.1.1.2.2 ∧ (u.1.1.1 = nI 0 → u.1.2 0 = u.1.1.2.1.toInt64) ∧ u.1.1.2.2.1 0 5 = nI pn ∧ (u.1.1.1 = nI 3 → u.1.1.2.2.1 2 = s.1 2)) ∧ okn g T u.1.1.2.2 u.2) (po g.1 vcl (va_A ([(a, .inl (g.2.1 2, 1, .inr (.inl f)))] ++ pl) sz) (fun (u : ((Int32 × Int32 × Sto) × (Nat → Int64)) × va_W) => [(a, .inl (g.2.1 2, 1, .inr (.inl u.1.2)))] ++ u.2)) (va_A ([(a, .inl (g.2.1 2, 1, .inr (.inl f)))] ++ pl) sz)) 1 6 (va_A ([(a, .inl (g.2.1 2, 1, .inr (.inl f)))] ++ pl) sz) := by
  refine lc_entry (cc := c_L_sign) (maxL := 5) (ret := (some .int)) (hh := [(0, 10, 13, 44), (0, 10, 17, 19), (0, 10, 21, 13)]) (by decide) rfl (Nat.le_of_ble_eq_true rfl) ?_
  intro p e s0 m args below meth c ls F hr hlk htab hsz hP hD hX hA hl
  obtain ⟨hx, hb, hml, hown, hts⟩ := id F
  have hE := hX.1
  have hK := hE.1
  generalize va_A ([(a, .inl (g.2.1 2, 1, .inr (.inl f)))] ++ pl) sz = A at hD hX hE hA ⊢
  have hS : va_S A s0.heap s0.heap [] := va_S.rf
  have hl : lv_has ls 5 [(0, .ref h0), (1, .int v), (2, .int v2), (3, .ref a)] := hl
  refine lv_aload_n hx hb dL_sign_0 rfl (lv_at hl 3 rfl) ?_
  refine lv_iconst (v := nI 0) hx hb dL_sign_1 (by decide) ?_
  refine lv_aload_n hx hb dL_sign_2 rfl (lv_at hl 0 rfl) ?_
  refine lv_iload_n hx hb dL_sign_3 rfl (lv_at hl 1 rfl) ?_
  refine lv_iload_n hx hb dL_sign_4 rfl (lv_at hl 2 rfl) ?_
  refine et_i (cx := []) (wr := [(a, .inl (g.2.1 2, 1, .inr (.inl f)))]) (own := "LatticeKeysLaw") (C := "LatticeKeys") (As := [.int v, .int v2]) (rest := [.int (nI 0), .ref a]) hP hD hS hA [] [0] rfl rfl rfl (by decide) F (N_K_signA l htr g _ T s pl hO hU h0 v v2 tl al pn k_h0 e_tl e_al e_pn h1 h2 h3) (cwV 2 hts (wg_app (wg_c kw_1161 (wg_c kw_1162 (wg_c kw_1163 (wg_c kw_1 wg_n)))) kw_1164) rfl rfl rfl (by decide +kernel) ⟨by decide, by decide⟩) (pn_V (ex_ok g) hK hO k_h0 rfl hP hD hS hA hX [] rfl rfl rfl) rfl hl.1 rfl (Nat.le_of_ble_eq_true rfl) dL_sign_5 ⟨Nat.le_of_ble_eq_true rfl, Nat.le_of_ble_eq_true rfl⟩ (fun r9 u9 H locs hu9 hP hD hS => ?_) (fun ex9 hex9 => ?_)
  · obtain ⟨q9, pl⟩ := u9
    obtain ⟨⟨eq9, er9, ez9, hF9, -, -, ⟨x8, hx8, ey8⟩, -, h39⟩, hO⟩ := hu9
    have hP : va_P g.1 vcl ([(a, .inl (g.2.1 2, 1, .inr (.inl f)))] ++ pl) _ := hP
    have hD : va_D _ ([(a, .inl (g.2.1 2, 1, .inr (.inl f)))] ++ pl) := hD
    refine W.widen (k := 1) (n := 6) (by omega) (by omega) ?_
    refine lv_i2l (v := (r9).toInt64) hx hb dL_sign_8 rfl ?_
    refine va_last hx hb hK hP hD hS 0 2 rfl rfl (vp_in_nI (by decide) (by decide)) dL_sign_9 (fun H locs hP hD hS => ?_)
    have hP : va_P g.1 vcl ([(a, .inl (g.2.1 2, 1, .inr (.inl (vp_updL f (nI 0).toNatClampNeg ((r9).toInt64)))))] ++ pl) _ := hP
    have hD : va_D _ ([(a, .inl (g.2.1 2, 1, .inr (.inl (vp_updL f (nI 0).toNatClampNeg ((r9).toInt64)))))] ++ pl) := hD
    refine lv_goto (tgt := 25) hx hb dL_sign_10 (by decide) ?_
    refine lv_iconst (v := nI 0) hx hb dL_sign_25 (by decide) ?_
    exact mp_iret hx hb hr hlk hP hD hS ((q9, vp_updL f (nI 0).toNatClampNeg ((r9).toInt64)), pl) ⟨⟨eq9, ez9.symm, hF9, fun _ => outN (f := f) (congrArg Int32.toInt64 er9), hx8.trans (congrArg nI ey8), h39⟩, hO⟩ [0] rfl rfl rfl (by omega) (by omega) dL_sign_26
  · obtain ⟨k9, ek9, hk9⟩ := xls_inv hex9
    rcases k9 with _ | _ | _ | k9
    · have h9 : "java/util/NoSuchElementException" = ex9 := by simpa using hk9
      subst h9
      obtain ⟨pre9, x9, suf9, hsp, hpr, hx9⟩ := lc_at htab 0 rfl
      have hx1 : x9.startPc = 0 := congrArg (fun q => q.1) hx9
      have hx2 : x9.endPc = 10 := congrArg (fun q => q.2.1) hx9
      have hx3 : x9.handlerPc = 13 := congrArg (fun q => q.2.2.1) hx9
      have hx4 : x9.catchType = 44 := congrArg (fun q => q.2.2.2) hx9
      refine ⟨pre9, x9, suf9, "java/util/NoSuchElementException", hsp, (fun z9 hz9 => ?_), (by simp only [covers, hx1, hx2]; decide), (by rw [hx4]; decide), (by rw [hx4]; exact hts _ (wg_t kw_1051)), va_Nw.use rfl (hX.2.2.2.2.1 "java/util/NoSuchElementException" (by decide)), (fun q9 u9 H locs hu9 hP hD hS => ?_)⟩
      · have hc9 := hpr z9 hz9
        exact absurd hc9 (by simp)
      · rw [hx3]
        obtain ⟨q8, pl⟩ := u9
        obtain ⟨⟨eq9, hF9, -, -, ⟨x8, hx8, ey8⟩, -, h39⟩, hO⟩ := hu9
        have eq9 : q8 = F_K_signA v v2 s := eq9
        have hP : va_P g.1 vcl ([(a, .inl (g.2.1 2, 1, .inr (.inl f)))] ++ pl) _ := hP
        have hD : va_D _ ([(a, .inl (g.2.1 2, 1, .inr (.inl f)))] ++ pl) := hD
        refine W.widen (k := 1) (n := 6) (by omega) (by omega) ?_
        refine lv_astore (lv' := [(4, .ref q9), (0, .ref h0), (1, .int v), (2, .int v2), (3, .ref a)]) hx hb dL_sign_13 hl (by decide) rfl (fun ls hl => ?_)
        refine lv_iconst (v := nI 1) hx hb dL_sign_15 (by decide) ?_
        exact mp_iret hx hb hr hlk hP hD hS ((q8, f), pl) ⟨⟨eq9, (by rw [eq9]; exact ek9.symm), hF9, fun h9 => absurd ((congrArg Prod.fst eq9).trans ek9 |>.symm.trans h9) (by decide), hx8.trans (congrArg nI ey8), h39⟩, hO⟩ [0] rfl rfl rfl (by omega) (by omega) dL_sign_16
    · have h9 : "java/lang/IllegalArgumentException" = ex9 := by simpa using hk9
      subst h9
      obtain ⟨pre9, x9, suf9, hsp, hpr, hx9⟩ := lc_at htab 1 rfl
      have hx1 : x9.startPc = 0 := congrArg (fun q => q.1) hx9
      have hx2 : x9.endPc = 10 := congrArg (fun q => q.2.1) hx9
      have hx3 : x9.handlerPc = 17 := congrArg (fun q => q.2.2.1) hx9
      have hx4 : x9.catchType = 19 := congrArg (fun q => q.2.2.2) hx9
      refine ⟨pre9, x9, suf9, "java/lang/IllegalArgumentException", hsp, (fun z9 hz9 => ?_), (by simp only [covers, hx1, hx2]; decide), (by rw [hx4]; decide), (by rw [hx4]; exact hts _ (wg_t kw_496)), va_Nw.use rfl (hX.2.2.2.2.1 "java/lang/IllegalArgumentException" (by decide)), (fun q9 u9 H locs hu9 hP hD hS => ?_)⟩
      · have hc9 := hpr z9 hz9
        simp only [List.take, List.map, List.mem_cons, List.not_mem_nil, or_false] at hc9
        rw [hc9]; exact ⟨by decide, "java/util/NoSuchElementException", hts _ (wg_t kw_1051), hX.2.2.2.2.2.2.2.2 ("java/lang/IllegalArgumentException", "java/util/NoSuchElementException") (by decide)⟩
      · rw [hx3]
        obtain ⟨q8, pl⟩ := u9
        obtain ⟨⟨eq9, hF9, -, -, ⟨x8, hx8, ey8⟩, -, h39⟩, hO⟩ := hu9
        have eq9 : q8 = F_K_signA v v2 s := eq9
        have hP : va_P g.1 vcl ([(a, .inl (g.2.1 2, 1, .inr (.inl f)))] ++ pl) _ := hP
        have hD : va_D _ ([(a, .inl (g.2.1 2, 1, .inr (.inl f)))] ++ pl) := hD
        refine W.widen (k := 1) (n := 6) (by omega) (by omega) ?_
        refine lv_astore (lv' := [(4, .ref q9), (0, .ref h0), (1, .int v), (2, .int v2), (3, .ref a)]) hx hb dL_sign_17 hl (by decide) rfl (fun ls hl => ?_)
        refine lv_iconst (v := nI 2) hx hb dL_sign_19 (by decide) ?_
        exact mp_iret hx hb hr hlk hP hD hS ((q8, f), pl) ⟨⟨eq9, (by rw [eq9]; exact ek9.symm), hF9, fun h9 => absurd ((congrArg Prod.fst eq9).trans ek9 |>.symm.trans h9) (by decide), hx8.trans (congrArg nI ey8), h39⟩, hO⟩ [0] rfl rfl rfl (by omega) (by omega) dL_sign_20
    · have h9 : "java/lang/IllegalStateException" = ex9 := by simpa using hk9
      subst h9
      obtain ⟨pre9, x9, suf9, hsp, hpr, hx9⟩ := lc_at htab 2 rfl
      have hx1 : x9.startPc = 0 := congrArg (fun q => q.1) hx9
      have hx2 : x9.endPc = 10 := congrArg (fun q => q.2.1) hx9
      have hx3 : x9.handlerPc = 21 := congrArg (fun q => q.2.2.1) hx9
      have hx4 : x9.catchType = 13 := congrArg (fun q => q.2.2.2) hx9
      refine ⟨pre9, x9, suf9, "java/lang/IllegalStateException", hsp, (fun z9 hz9 => ?_), (by simp only [covers, hx1, hx2]; decide), (by rw [hx4]; decide), (by rw [hx4]; exact hts _ (wg_t kw_415)), va_Nw.use rfl (hX.2.2.2.2.1 "java/lang/IllegalStateException" (by decide)), (fun q9 u9 H locs hu9 hP hD hS => ?_)⟩
      · have hc9 := hpr z9 hz9
        simp only [List.take, List.map, List.mem_cons, List.not_mem_nil, or_false] at hc9
        rcases hc9 with hc9 | hc9
        · rw [hc9]; exact ⟨by decide, "java/util/NoSuchElementException", hts _ (wg_t kw_1051), hX.2.2.2.2.2.2.2.2 ("java/lang/IllegalStateException", "java/util/NoSuchElementException") (by decide)⟩
        · rw [hc9]; exact ⟨by decide, "java/lang/IllegalArgumentException", hts _ (wg_t kw_496), hX.2.2.2.2.2.2.2.2 ("java/lang/IllegalStateException", "java/lang/IllegalArgumentException") (by decide)⟩
      · rw [hx3]
        obtain ⟨q8, pl⟩ := u9
        obtain ⟨⟨eq9, hF9, -, -, ⟨x8, hx8, ey8⟩, -, h39⟩, hO⟩ := hu9
        have eq9 : q8 = F_K_signA v v2 s := eq9
        have hP : va_P g.1 vcl ([(a, .inl (g.2.1 2, 1, .inr (.inl f)))] ++ pl) _ := hP
        have hD : va_D _ ([(a, .inl (g.2.1 2, 1, .inr (.inl f)))] ++ pl) := hD
        refine W.widen (k := 1) (n := 6) (by omega) (by omega) ?_
        refine lv_astore (lv' := [(4, .ref q9), (0, .ref h0), (1, .int v), (2, .int v2), (3, .ref a)]) hx hb dL_sign_21 hl (by decide) rfl (fun ls hl => ?_)
        refine lv_iconst (v := nI 3) hx hb dL_sign_23 (by decide) ?_
        exact mp_iret hx hb hr hlk hP hD hS ((q8, f), pl) ⟨⟨eq9, (by rw [eq9]; exact ek9.symm), hF9, fun h9 => absurd ((congrArg Prod.fst eq9).trans ek9 |>.symm.trans h9) (by decide), hx8.trans (congrArg nI ey8), h39⟩, hO⟩ [0] rfl rfl rfl (by omega) (by omega) dL_sign_24
    · exact absurd hk9 (by simp)
set_option maxHeartbeats 2000000 in
theorem ln_result (l : Launch) (htr : l.stackTraces = false) (g : Gd) (sz : Nat) (T : TyN) (s : Sto) (pl : va_W) (hO : okn g T s pl) (hU : inj T) (h0 : Nat) (v : Int32) (a : Nat) (f : Nat → Int64) (tl al pn : Nat) (k_h0 : T h0 = some 0) (e_tl : s.1 0 1 = nI tl) (e_al : s.1 0 3 = nI al) (e_pn : s.1 0 5 = nI pn) (h1 : tl ≤ 16384) (h2 : al ≤ 8192) (h3 : pn ≤ 8) : Met l y_L_result w_L_result ({ frames := 7, cells := 1, slots := 6, locals := 111 } : Room) (va_Pc [.ref h0, .int v, .ref a] (pr (ex g) g.1 vcl sz ([(a, .inl (g.2.1 2, 1, .inr (.inl f)))] ++ pl))) (va_Qi (fun (r : Int32) (u : ((Int32 × Int32 × Sto) × (Nat → Int64)) × va_W) => (u.1.1 = F_K_result v s ∧ r = u.1.1.1 ∧ frm M_K_result s u.1.1.2.2 ∧ (u.1.1.1 = nI 0 → u.1.2 0 = u.1.1.2.1.toInt64) ∧ u.1.1.2.2.1 0 5 = nI pn) ∧ okn g T u.1.1.2.2 u.2) (po g.1 vcl (va_A ([(a, .inl (g.2.1 2, 1, .inr (.inl f)))] ++ pl) sz) (fun (u : ((Int32 × Int32 × Sto) × (Nat → Int64)) × va_W) => [(a, .inl (g.2.1 2, 1, .inr (.inl u.1.2)))] ++ u.2)) (va_A ([(a, .inl (g.2.1 2, 1, .inr (.inl f)))] ++ pl) sz)) 1 6 (va_A ([(a, .inl (g.2.1 2, 1, .inr (.inl f)))] ++ pl) sz) := by
  refine lc_entry (cc := c_L_result) (maxL := 4) (ret := (some .int)) (hh := [(0, 9, 12, 29)]) (by decide) rfl (Nat.le_of_ble_eq_true rfl) ?_
  intro p e s0 m args below meth c ls F hr hlk htab hsz hP hD hX hA hl
  obtain ⟨hx, hb, hml, hown, hts⟩ := id F
  have hE := hX.1
  have hK := hE.1
  generalize va_A ([(a, .inl (g.2.1 2, 1, .inr (.inl f)))] ++ pl) sz = A at hD hX hE hA ⊢
  have hS : va_S A s0.heap s0.heap [] := va_S.rf
  have hl : lv_has ls 4 [(0, .ref h0), (1, .int v), (2, .ref a)] := hl
  refine lv_aload_n hx hb dL_result_0 rfl (lv_at hl 2 rfl) ?_
  refine lv_iconst (v := nI 0) hx hb dL_result_1 (by decide) ?_
  refine lv_aload_n hx hb dL_result_2 rfl (lv_at hl 0 rfl) ?_
  refine lv_iload_n hx hb dL_result_3 rfl (lv_at hl 1 rfl) ?_
  refine et_i (cx := []) (wr := [(a, .inl (g.2.1 2, 1, .inr (.inl f)))]) (own := "LatticeKeysLaw") (C := "LatticeKeys") (As := [.int v]) (rest := [.int (nI 0), .ref a]) hP hD hS hA [] [0] rfl rfl rfl (by decide) F (N_K_result l htr g _ T s pl hO hU h0 v tl al pn k_h0 e_tl e_al e_pn h1 h2 h3) (cwV 1 hts (wg_app (wg_c kw_1306 (wg_c kw_1307 (wg_c kw_1308 (wg_c kw_1 wg_n)))) kw_1309) rfl rfl rfl (by decide +kernel) ⟨by decide, by decide⟩) (pn_V (ex_ok g) hK hO k_h0 rfl hP hD hS hA hX [] rfl rfl rfl) rfl hl.1 rfl (Nat.le_of_ble_eq_true rfl) dL_result_4 ⟨Nat.le_of_ble_eq_true rfl, Nat.le_of_ble_eq_true rfl⟩ (fun r9 u9 H locs hu9 hP hD hS => ?_) (fun ex9 hex9 => ?_)
  · obtain ⟨q9, pl⟩ := u9
    obtain ⟨⟨eq9, er9, ez9, hF9, -, -, ⟨x8, hx8, ey8⟩, -⟩, hO⟩ := hu9
    have hP : va_P g.1 vcl ([(a, .inl (g.2.1 2, 1, .inr (.inl f)))] ++ pl) _ := hP
    have hD : va_D _ ([(a, .inl (g.2.1 2, 1, .inr (.inl f)))] ++ pl) := hD
    refine W.widen (k := 1) (n := 6) (by omega) (by omega) ?_
    refine lv_i2l (v := (r9).toInt64) hx hb dL_result_7 rfl ?_
    refine va_last hx hb hK hP hD hS 0 2 rfl rfl (vp_in_nI (by decide) (by decide)) dL_result_8 (fun H locs hP hD hS => ?_)
    have hP : va_P g.1 vcl ([(a, .inl (g.2.1 2, 1, .inr (.inl (vp_updL f (nI 0).toNatClampNeg ((r9).toInt64)))))] ++ pl) _ := hP
    have hD : va_D _ ([(a, .inl (g.2.1 2, 1, .inr (.inl (vp_updL f (nI 0).toNatClampNeg ((r9).toInt64)))))] ++ pl) := hD
    refine lv_goto (tgt := 15) hx hb dL_result_9 (by decide) ?_
    refine lv_iconst (v := nI 0) hx hb dL_result_15 (by decide) ?_
    exact mp_iret hx hb hr hlk hP hD hS ((q9, vp_updL f (nI 0).toNatClampNeg ((r9).toInt64)), pl) ⟨⟨eq9, ez9.symm, hF9, fun _ => outN (f := f) (congrArg Int32.toInt64 er9), hx8.trans (congrArg nI ey8)⟩, hO⟩ [0] rfl rfl rfl (by omega) (by omega) dL_result_16
  · obtain ⟨k9, ek9, hk9⟩ := xls_inv hex9
    rcases k9 with _ | k9
    · have h9 : "java/lang/IndexOutOfBoundsException" = ex9 := by simpa using hk9
      subst h9
      obtain ⟨pre9, x9, suf9, hsp, hpr, hx9⟩ := lc_at htab 0 rfl
      have hx1 : x9.startPc = 0 := congrArg (fun q => q.1) hx9
      have hx2 : x9.endPc = 9 := congrArg (fun q => q.2.1) hx9
      have hx3 : x9.handlerPc = 12 := congrArg (fun q => q.2.2.1) hx9
      have hx4 : x9.catchType = 29 := congrArg (fun q => q.2.2.2) hx9
      refine ⟨pre9, x9, suf9, "java/lang/IndexOutOfBoundsException", hsp, (fun z9 hz9 => ?_), (by simp only [covers, hx1, hx2]; decide), (by rw [hx4]; decide), (by rw [hx4]; exact hts _ (wg_t kw_530)), va_Nw.use rfl (hX.2.2.2.2.1 "java/lang/IndexOutOfBoundsException" (by decide)), (fun q9 u9 H locs hu9 hP hD hS => ?_)⟩
      · have hc9 := hpr z9 hz9
        exact absurd hc9 (by simp)
      · rw [hx3]
        obtain ⟨q8, pl⟩ := u9
        obtain ⟨⟨eq9, hF9, -, -, ⟨x8, hx8, ey8⟩, -⟩, hO⟩ := hu9
        have eq9 : q8 = F_K_result v s := eq9
        have hP : va_P g.1 vcl ([(a, .inl (g.2.1 2, 1, .inr (.inl f)))] ++ pl) _ := hP
        have hD : va_D _ ([(a, .inl (g.2.1 2, 1, .inr (.inl f)))] ++ pl) := hD
        refine W.widen (k := 1) (n := 6) (by omega) (by omega) ?_
        refine lv_astore_n (lv' := [(3, .ref q9), (0, .ref h0), (1, .int v), (2, .ref a)]) hx hb dL_result_12 rfl hl (by decide) rfl (fun ls hl => ?_)
        refine lv_iconst (v := nI 1) hx hb dL_result_13 (by decide) ?_
        exact mp_iret hx hb hr hlk hP hD hS ((q8, f), pl) ⟨⟨eq9, (by rw [eq9]; exact ek9.symm), hF9, fun h9 => absurd ((congrArg Prod.fst eq9).trans ek9 |>.symm.trans h9) (by decide), hx8.trans (congrArg nI ey8)⟩, hO⟩ [0] rfl rfl rfl (by omega) (by omega) dL_result_14
    · exact absurd hk9 (by simp)
