set_option linter.all false
abbrev c_MH_openSize : ByteArray := prog_13_method_2_code
abbrev y_MH_openSize : MethodName := ⟨"LatticeKeysModel$Hands", "openSize", "(I)I"⟩
abbrev w_MH_openSize : List Cond := Cond.code y_MH_openSize c_MH_openSize 1 (some .int) :: WG
theorem dMH_openSize_0 : decode c_MH_openSize 0 = .ok (.bipush 32, 2) := by decide +kernel
theorem dMH_openSize_2 : decode c_MH_openSize 2 = .ok (.sipush 320, 3) := by decide +kernel
theorem dMH_openSize_5 : decode c_MH_openSize 5 = .ok (.getstatic 91, 3) := by decide +kernel
theorem dMH_openSize_8 : decode c_MH_openSize 8 = .ok (.iload_n 0, 1) := by decide +kernel
theorem dMH_openSize_9 : decode c_MH_openSize 9 = .ok (.iaload, 1) := by decide +kernel
theorem dMH_openSize_10 : decode c_MH_openSize 10 = .ok (.imul, 1) := by decide +kernel
theorem dMH_openSize_11 : decode c_MH_openSize 11 = .ok (.iadd, 1) := by decide +kernel
theorem dMH_openSize_12 : decode c_MH_openSize 12 = .ok (.ireturn, 1) := by decide +kernel
abbrev c_MH_hiddenSize : ByteArray := prog_13_method_3_code
abbrev y_MH_hiddenSize : MethodName := ⟨"LatticeKeysModel$Hands", "hiddenSize", "(I)I"⟩
abbrev w_MH_hiddenSize : List Cond := Cond.code y_MH_hiddenSize c_MH_hiddenSize 1 (some .int) :: WG
theorem dMH_hiddenSize_0 : decode c_MH_hiddenSize 0 = .ok (.sipush 128, 3) := by decide +kernel
theorem dMH_hiddenSize_3 : decode c_MH_hiddenSize 3 = .ok (.bipush 32, 2) := by decide +kernel
theorem dMH_hiddenSize_5 : decode c_MH_hiddenSize 5 = .ok (.getstatic 94, 3) := by decide +kernel
theorem dMH_hiddenSize_8 : decode c_MH_hiddenSize 8 = .ok (.iload_n 0, 1) := by decide +kernel
theorem dMH_hiddenSize_9 : decode c_MH_hiddenSize 9 = .ok (.iaload, 1) := by decide +kernel
theorem dMH_hiddenSize_10 : decode c_MH_hiddenSize 10 = .ok (.iconst 2, 1) := by decide +kernel
theorem dMH_hiddenSize_11 : decode c_MH_hiddenSize 11 = .ok (.if_icmp .ne 7, 3) := by decide +kernel
theorem dMH_hiddenSize_14 : decode c_MH_hiddenSize 14 = .ok (.iconst 3, 1) := by decide +kernel
theorem dMH_hiddenSize_15 : decode c_MH_hiddenSize 15 = .ok (.goto 4, 3) := by decide +kernel
theorem dMH_hiddenSize_18 : decode c_MH_hiddenSize 18 = .ok (.iconst 4, 1) := by decide +kernel
theorem dMH_hiddenSize_19 : decode c_MH_hiddenSize 19 = .ok (.imul, 1) := by decide +kernel
theorem dMH_hiddenSize_20 : decode c_MH_hiddenSize 20 = .ok (.getstatic 91, 3) := by decide +kernel
theorem dMH_hiddenSize_23 : decode c_MH_hiddenSize 23 = .ok (.iload_n 0, 1) := by decide +kernel
theorem dMH_hiddenSize_24 : decode c_MH_hiddenSize 24 = .ok (.iaload, 1) := by decide +kernel
theorem dMH_hiddenSize_25 : decode c_MH_hiddenSize 25 = .ok (.getstatic 97, 3) := by decide +kernel
theorem dMH_hiddenSize_28 : decode c_MH_hiddenSize 28 = .ok (.iload_n 0, 1) := by decide +kernel
theorem dMH_hiddenSize_29 : decode c_MH_hiddenSize 29 = .ok (.iaload, 1) := by decide +kernel
theorem dMH_hiddenSize_30 : decode c_MH_hiddenSize 30 = .ok (.iadd, 1) := by decide +kernel
theorem dMH_hiddenSize_31 : decode c_MH_hiddenSize 31 = .ok (.imul, 1) := by decide +kernel
theorem dMH_hiddenSize_32 : decode c_MH_hiddenSize 32 = .ok (.iadd, 1) := by decide +kernel
theorem dMH_hiddenSize_33 : decode c_MH_hiddenSize 33 = .ok (.sipush 416, 3) := by decide +kernel
theorem dMH_hiddenSize_36 : decode c_MH_hiddenSize 36 = .ok (.getstatic 91, 3) := by decide +kernel
theorem dMH_hiddenSize_39 : decode c_MH_hiddenSize 39 = .ok (.iload_n 0, 1) := by decide +kernel
theorem dMH_hiddenSize_40 : decode c_MH_hiddenSize 40 = .ok (.iaload, 1) := by decide +kernel
theorem dMH_hiddenSize_41 : decode c_MH_hiddenSize 41 = .ok (.imul, 1) := by decide +kernel
theorem dMH_hiddenSize_42 : decode c_MH_hiddenSize 42 = .ok (.iadd, 1) := by decide +kernel
theorem dMH_hiddenSize_43 : decode c_MH_hiddenSize 43 = .ok (.ireturn, 1) := by decide +kernel
abbrev c_MH_markSize : ByteArray := prog_13_method_4_code
abbrev y_MH_markSize : MethodName := ⟨"LatticeKeysModel$Hands", "markSize", "(I)I"⟩
abbrev w_MH_markSize : List Cond := Cond.code y_MH_markSize c_MH_markSize 1 (some .int) :: WG
theorem dMH_markSize_0 : decode c_MH_markSize 0 = .ok (.bipush 32, 2) := by decide +kernel
theorem dMH_markSize_2 : decode c_MH_markSize 2 = .ok (.bipush 16, 2) := by decide +kernel
theorem dMH_markSize_4 : decode c_MH_markSize 4 = .ok (.iload_n 0, 1) := by decide +kernel
theorem dMH_markSize_5 : decode c_MH_markSize 5 = .ok (.imul, 1) := by decide +kernel
theorem dMH_markSize_6 : decode c_MH_markSize 6 = .ok (.iadd, 1) := by decide +kernel
theorem dMH_markSize_7 : decode c_MH_markSize 7 = .ok (.bipush 32, 2) := by decide +kernel
theorem dMH_markSize_9 : decode c_MH_markSize 9 = .ok (.iload_n 0, 1) := by decide +kernel
theorem dMH_markSize_10 : decode c_MH_markSize 10 = .ok (.ifCond .ne 8, 3) := by decide +kernel
theorem dMH_markSize_13 : decode c_MH_markSize 13 = .ok (.bipush 18, 2) := by decide +kernel
theorem dMH_markSize_15 : decode c_MH_markSize 15 = .ok (.goto 5, 3) := by decide +kernel
theorem dMH_markSize_18 : decode c_MH_markSize 18 = .ok (.bipush 20, 2) := by decide +kernel
theorem dMH_markSize_20 : decode c_MH_markSize 20 = .ok (.imul, 1) := by decide +kernel
theorem dMH_markSize_21 : decode c_MH_markSize 21 = .ok (.getstatic 97, 3) := by decide +kernel
theorem dMH_markSize_24 : decode c_MH_markSize 24 = .ok (.iload_n 0, 1) := by decide +kernel
theorem dMH_markSize_25 : decode c_MH_markSize 25 = .ok (.iaload, 1) := by decide +kernel
theorem dMH_markSize_26 : decode c_MH_markSize 26 = .ok (.imul, 1) := by decide +kernel
theorem dMH_markSize_27 : decode c_MH_markSize 27 = .ok (.iadd, 1) := by decide +kernel
theorem dMH_markSize_28 : decode c_MH_markSize 28 = .ok (.getstatic 100, 3) := by decide +kernel
theorem dMH_markSize_31 : decode c_MH_markSize 31 = .ok (.iload_n 0, 1) := by decide +kernel
theorem dMH_markSize_32 : decode c_MH_markSize 32 = .ok (.iaload, 1) := by decide +kernel
theorem dMH_markSize_33 : decode c_MH_markSize 33 = .ok (.iadd, 1) := by decide +kernel
theorem dMH_markSize_34 : decode c_MH_markSize 34 = .ok (.getstatic 91, 3) := by decide +kernel
theorem dMH_markSize_37 : decode c_MH_markSize 37 = .ok (.iload_n 0, 1) := by decide +kernel
theorem dMH_markSize_38 : decode c_MH_markSize 38 = .ok (.iaload, 1) := by decide +kernel
theorem dMH_markSize_39 : decode c_MH_markSize 39 = .ok (.iadd, 1) := by decide +kernel
theorem dMH_markSize_40 : decode c_MH_markSize 40 = .ok (.ireturn, 1) := by decide +kernel
abbrev c_MH_norm : ByteArray := prog_13_method_6_code
abbrev y_MH_norm : MethodName := ⟨"LatticeKeysModel$Hands", "norm", "(I)I"⟩
abbrev w_MH_norm : List Cond := Cond.code y_MH_norm c_MH_norm 1 (some .int) :: WG
theorem dMH_norm_0 : decode c_MH_norm 0 = .ok (.iload_n 0, 1) := by decide +kernel
theorem dMH_norm_1 : decode c_MH_norm 1 = .ok (.ldc 135, 2) := by decide +kernel
theorem dMH_norm_3 : decode c_MH_norm 3 = .ok (.if_icmp .le 10, 3) := by decide +kernel
theorem dMH_norm_6 : decode c_MH_norm 6 = .ok (.ldc 11, 2) := by decide +kernel
theorem dMH_norm_8 : decode c_MH_norm 8 = .ok (.iload_n 0, 1) := by decide +kernel
theorem dMH_norm_9 : decode c_MH_norm 9 = .ok (.isub, 1) := by decide +kernel
theorem dMH_norm_10 : decode c_MH_norm 10 = .ok (.goto 4, 3) := by decide +kernel
theorem dMH_norm_13 : decode c_MH_norm 13 = .ok (.iload_n 0, 1) := by decide +kernel
theorem dMH_norm_14 : decode c_MH_norm 14 = .ok (.ireturn, 1) := by decide +kernel
abbrev c_MH_minus : ByteArray := prog_13_method_11_code
abbrev y_MH_minus : MethodName := ⟨"LatticeKeysModel$Hands", "minus", "(II)I"⟩
abbrev w_MH_minus : List Cond := Cond.code y_MH_minus c_MH_minus 2 (some .int) :: WG
theorem dMH_minus_0 : decode c_MH_minus 0 = .ok (.iload_n 0, 1) := by decide +kernel
theorem dMH_minus_1 : decode c_MH_minus 1 = .ok (.iload_n 1, 1) := by decide +kernel
theorem dMH_minus_2 : decode c_MH_minus 2 = .ok (.if_icmp .ge 12, 3) := by decide +kernel
theorem dMH_minus_5 : decode c_MH_minus 5 = .ok (.iload_n 0, 1) := by decide +kernel
theorem dMH_minus_6 : decode c_MH_minus 6 = .ok (.iload_n 1, 1) := by decide +kernel
theorem dMH_minus_7 : decode c_MH_minus 7 = .ok (.isub, 1) := by decide +kernel
theorem dMH_minus_8 : decode c_MH_minus 8 = .ok (.ldc 11, 2) := by decide +kernel
theorem dMH_minus_10 : decode c_MH_minus 10 = .ok (.iadd, 1) := by decide +kernel
theorem dMH_minus_11 : decode c_MH_minus 11 = .ok (.goto 6, 3) := by decide +kernel
theorem dMH_minus_14 : decode c_MH_minus 14 = .ok (.iload_n 0, 1) := by decide +kernel
theorem dMH_minus_15 : decode c_MH_minus 15 = .ok (.iload_n 1, 1) := by decide +kernel
theorem dMH_minus_16 : decode c_MH_minus 16 = .ok (.isub, 1) := by decide +kernel
theorem dMH_minus_17 : decode c_MH_minus 17 = .ok (.ireturn, 1) := by decide +kernel
abbrev c_MH_low : ByteArray := prog_13_method_12_code
abbrev y_MH_low : MethodName := ⟨"LatticeKeysModel$Hands", "low", "(I)I"⟩
abbrev w_MH_low : List Cond := Cond.code y_MH_low c_MH_low 3 (some .int) :: WG
theorem dMH_low_0 : decode c_MH_low 0 = .ok (.iload_n 1, 1) := by decide +kernel
theorem dMH_low_1 : decode c_MH_low 1 = .ok (.iconst 2, 1) := by decide +kernel
theorem dMH_low_2 : decode c_MH_low 2 = .ok (.aload_n 0, 1) := by decide +kernel
theorem dMH_low_3 : decode c_MH_low 3 = .ok (.getfield 123, 3) := by decide +kernel
theorem dMH_low_6 : decode c_MH_low 6 = .ok (.imul, 1) := by decide +kernel
theorem dMH_low_7 : decode c_MH_low 7 = .ok (.irem, 1) := by decide +kernel
theorem dMH_low_8 : decode c_MH_low 8 = .ok (.istore_n 2, 1) := by decide +kernel
theorem dMH_low_9 : decode c_MH_low 9 = .ok (.iload_n 2, 1) := by decide +kernel
theorem dMH_low_10 : decode c_MH_low 10 = .ok (.aload_n 0, 1) := by decide +kernel
theorem dMH_low_11 : decode c_MH_low 11 = .ok (.getfield 123, 3) := by decide +kernel
theorem dMH_low_14 : decode c_MH_low 14 = .ok (.if_icmp .le 12, 3) := by decide +kernel
theorem dMH_low_17 : decode c_MH_low 17 = .ok (.iload_n 2, 1) := by decide +kernel
theorem dMH_low_18 : decode c_MH_low 18 = .ok (.iconst 2, 1) := by decide +kernel
theorem dMH_low_19 : decode c_MH_low 19 = .ok (.aload_n 0, 1) := by decide +kernel
theorem dMH_low_20 : decode c_MH_low 20 = .ok (.getfield 123, 3) := by decide +kernel
theorem dMH_low_23 : decode c_MH_low 23 = .ok (.imul, 1) := by decide +kernel
theorem dMH_low_24 : decode c_MH_low 24 = .ok (.isub, 1) := by decide +kernel
theorem dMH_low_25 : decode c_MH_low 25 = .ok (.istore_n 2, 1) := by decide +kernel
theorem dMH_low_26 : decode c_MH_low 26 = .ok (.iload_n 1, 1) := by decide +kernel
theorem dMH_low_27 : decode c_MH_low 27 = .ok (.iload_n 2, 1) := by decide +kernel
theorem dMH_low_28 : decode c_MH_low 28 = .ok (.isub, 1) := by decide +kernel
theorem dMH_low_29 : decode c_MH_low 29 = .ok (.ldc 165, 2) := by decide +kernel
theorem dMH_low_31 : decode c_MH_low 31 = .ok (.if_icmp .ne 9, 3) := by decide +kernel
theorem dMH_low_34 : decode c_MH_low 34 = .ok (.iload_n 2, 1) := by decide +kernel
theorem dMH_low_35 : decode c_MH_low 35 = .ok (.iconst 1, 1) := by decide +kernel
theorem dMH_low_36 : decode c_MH_low 36 = .ok (.isub, 1) := by decide +kernel
theorem dMH_low_37 : decode c_MH_low 37 = .ok (.goto 4, 3) := by decide +kernel
theorem dMH_low_40 : decode c_MH_low 40 = .ok (.iload_n 2, 1) := by decide +kernel
theorem dMH_low_41 : decode c_MH_low 41 = .ok (.ireturn, 1) := by decide +kernel
abbrev c_MH_high : ByteArray := prog_13_method_13_code
abbrev y_MH_high : MethodName := ⟨"LatticeKeysModel$Hands", "high", "(I)I"⟩
abbrev w_MH_high : List Cond := Cond.code y_MH_high c_MH_high 3 (some .int) :: WG
theorem dMH_high_0 : decode c_MH_high 0 = .ok (.iload_n 1, 1) := by decide +kernel
theorem dMH_high_1 : decode c_MH_high 1 = .ok (.iconst 2, 1) := by decide +kernel
theorem dMH_high_2 : decode c_MH_high 2 = .ok (.aload_n 0, 1) := by decide +kernel
theorem dMH_high_3 : decode c_MH_high 3 = .ok (.getfield 123, 3) := by decide +kernel
theorem dMH_high_6 : decode c_MH_high 6 = .ok (.imul, 1) := by decide +kernel
theorem dMH_high_7 : decode c_MH_high 7 = .ok (.irem, 1) := by decide +kernel
theorem dMH_high_8 : decode c_MH_high 8 = .ok (.istore_n 2, 1) := by decide +kernel
theorem dMH_high_9 : decode c_MH_high 9 = .ok (.iload_n 2, 1) := by decide +kernel
theorem dMH_high_10 : decode c_MH_high 10 = .ok (.aload_n 0, 1) := by decide +kernel
theorem dMH_high_11 : decode c_MH_high 11 = .ok (.getfield 123, 3) := by decide +kernel
theorem dMH_high_14 : decode c_MH_high 14 = .ok (.if_icmp .le 12, 3) := by decide +kernel
theorem dMH_high_17 : decode c_MH_high 17 = .ok (.iload_n 2, 1) := by decide +kernel
theorem dMH_high_18 : decode c_MH_high 18 = .ok (.iconst 2, 1) := by decide +kernel
theorem dMH_high_19 : decode c_MH_high 19 = .ok (.aload_n 0, 1) := by decide +kernel
theorem dMH_high_20 : decode c_MH_high 20 = .ok (.getfield 123, 3) := by decide +kernel
theorem dMH_high_23 : decode c_MH_high 23 = .ok (.imul, 1) := by decide +kernel
theorem dMH_high_24 : decode c_MH_high 24 = .ok (.isub, 1) := by decide +kernel
theorem dMH_high_25 : decode c_MH_high 25 = .ok (.istore_n 2, 1) := by decide +kernel
theorem dMH_high_26 : decode c_MH_high 26 = .ok (.iload_n 1, 1) := by decide +kernel
theorem dMH_high_27 : decode c_MH_high 27 = .ok (.iload_n 2, 1) := by decide +kernel
theorem dMH_high_28 : decode c_MH_high 28 = .ok (.isub, 1) := by decide +kernel
theorem dMH_high_29 : decode c_MH_high 29 = .ok (.ldc 165, 2) := by decide +kernel
theorem dMH_high_31 : decode c_MH_high 31 = .ok (.if_icmp .ne 7, 3) := by decide +kernel
theorem dMH_high_34 : decode c_MH_high 34 = .ok (.iconst 0, 1) := by decide +kernel
theorem dMH_high_35 : decode c_MH_high 35 = .ok (.goto 13, 3) := by decide +kernel
theorem dMH_high_38 : decode c_MH_high 38 = .ok (.iload_n 1, 1) := by decide +kernel
theorem dMH_high_39 : decode c_MH_high 39 = .ok (.iload_n 2, 1) := by decide +kernel
theorem dMH_high_40 : decode c_MH_high 40 = .ok (.isub, 1) := by decide +kernel
theorem dMH_high_41 : decode c_MH_high 41 = .ok (.iconst 2, 1) := by decide +kernel
theorem dMH_high_42 : decode c_MH_high 42 = .ok (.aload_n 0, 1) := by decide +kernel
theorem dMH_high_43 : decode c_MH_high 43 = .ok (.getfield 123, 3) := by decide +kernel
theorem dMH_high_46 : decode c_MH_high 46 = .ok (.imul, 1) := by decide +kernel
theorem dMH_high_47 : decode c_MH_high 47 = .ok (.idiv, 1) := by decide +kernel
theorem dMH_high_48 : decode c_MH_high 48 = .ok (.ireturn, 1) := by decide +kernel
abbrev c_MH_used : ByteArray := prog_13_method_19_code
abbrev y_MH_used : MethodName := ⟨"LatticeKeysModel$Hands", "used", "(II)I"⟩
abbrev w_MH_used : List Cond := Cond.code y_MH_used c_MH_used 4 (some .int) :: WG
theorem dMH_used_0 : decode c_MH_used 0 = .ok (.ldc 165, 2) := by decide +kernel
theorem dMH_used_2 : decode c_MH_used 2 = .ok (.iconst 2, 1) := by decide +kernel
theorem dMH_used_3 : decode c_MH_used 3 = .ok (.aload_n 0, 1) := by decide +kernel
theorem dMH_used_4 : decode c_MH_used 4 = .ok (.getfield 123, 3) := by decide +kernel
theorem dMH_used_7 : decode c_MH_used 7 = .ok (.imul, 1) := by decide +kernel
theorem dMH_used_8 : decode c_MH_used 8 = .ok (.idiv, 1) := by decide +kernel
theorem dMH_used_9 : decode c_MH_used 9 = .ok (.istore_n 3, 1) := by decide +kernel
theorem dMH_used_10 : decode c_MH_used 10 = .ok (.iload_n 1, 1) := by decide +kernel
theorem dMH_used_11 : decode c_MH_used 11 = .ok (.ifCond .ne 9, 3) := by decide +kernel
theorem dMH_used_14 : decode c_MH_used 14 = .ok (.aload_n 0, 1) := by decide +kernel
theorem dMH_used_15 : decode c_MH_used 15 = .ok (.iload_n 2, 1) := by decide +kernel
theorem dMH_used_16 : decode c_MH_used 16 = .ok (.invokevirtual 208, 3) := by decide +kernel
theorem dMH_used_19 : decode c_MH_used 19 = .ok (.ireturn, 1) := by decide +kernel
theorem dMH_used_20 : decode c_MH_used 20 = .ok (.aload_n 0, 1) := by decide +kernel
theorem dMH_used_21 : decode c_MH_used 21 = .ok (.iload_n 2, 1) := by decide +kernel
theorem dMH_used_22 : decode c_MH_used 22 = .ok (.invokevirtual 211, 3) := by decide +kernel
theorem dMH_used_25 : decode c_MH_used 25 = .ok (.ifCond .le 15, 3) := by decide +kernel
theorem dMH_used_28 : decode c_MH_used 28 = .ok (.aload_n 0, 1) := by decide +kernel
theorem dMH_used_29 : decode c_MH_used 29 = .ok (.iload_n 2, 1) := by decide +kernel
theorem dMH_used_30 : decode c_MH_used 30 = .ok (.invokevirtual 208, 3) := by decide +kernel
theorem dMH_used_33 : decode c_MH_used 33 = .ok (.iconst 1, 1) := by decide +kernel
theorem dMH_used_34 : decode c_MH_used 34 = .ok (.iadd, 1) := by decide +kernel
theorem dMH_used_35 : decode c_MH_used 35 = .ok (.iload_n 3, 1) := by decide +kernel
theorem dMH_used_36 : decode c_MH_used 36 = .ok (.irem, 1) := by decide +kernel
theorem dMH_used_37 : decode c_MH_used 37 = .ok (.goto 14, 3) := by decide +kernel
theorem dMH_used_40 : decode c_MH_used 40 = .ok (.aload_n 0, 1) := by decide +kernel
theorem dMH_used_41 : decode c_MH_used 41 = .ok (.iload_n 2, 1) := by decide +kernel
theorem dMH_used_42 : decode c_MH_used 42 = .ok (.invokevirtual 208, 3) := by decide +kernel
theorem dMH_used_45 : decode c_MH_used 45 = .ok (.iload_n 3, 1) := by decide +kernel
theorem dMH_used_46 : decode c_MH_used 46 = .ok (.iadd, 1) := by decide +kernel
theorem dMH_used_47 : decode c_MH_used 47 = .ok (.iconst 1, 1) := by decide +kernel
theorem dMH_used_48 : decode c_MH_used 48 = .ok (.isub, 1) := by decide +kernel
theorem dMH_used_49 : decode c_MH_used 49 = .ok (.iload_n 3, 1) := by decide +kernel
theorem dMH_used_50 : decode c_MH_used 50 = .ok (.irem, 1) := by decide +kernel
theorem dMH_used_51 : decode c_MH_used 51 = .ok (.ireturn, 1) := by decide +kernel
abbrev c_MH_rowBy : ByteArray := prog_13_method_9_code
abbrev y_MH_rowBy : MethodName := ⟨"LatticeKeysModel$Hands", "rowBy", "(I[I)V"⟩
abbrev w_MH_rowBy : List Cond := Cond.code y_MH_rowBy c_MH_rowBy 7 none :: WG
theorem dMH_rowBy_0 : decode c_MH_rowBy 0 = .ok (.iconst 0, 1) := by decide +kernel
theorem dMH_rowBy_1 : decode c_MH_rowBy 1 = .ok (.istore_n 3, 1) := by decide +kernel
theorem dMH_rowBy_2 : decode c_MH_rowBy 2 = .ok (.iload_n 3, 1) := by decide +kernel
theorem dMH_rowBy_3 : decode c_MH_rowBy 3 = .ok (.sipush 256, 3) := by decide +kernel
theorem dMH_rowBy_6 : decode c_MH_rowBy 6 = .ok (.if_icmp .ge 78, 3) := by decide +kernel
theorem dMH_rowBy_9 : decode c_MH_rowBy 9 = .ok (.lconst 0, 1) := by decide +kernel
theorem dMH_rowBy_10 : decode c_MH_rowBy 10 = .ok (.lstore 4, 2) := by decide +kernel
theorem dMH_rowBy_12 : decode c_MH_rowBy 12 = .ok (.iconst 0, 1) := by decide +kernel
theorem dMH_rowBy_13 : decode c_MH_rowBy 13 = .ok (.istore 6, 2) := by decide +kernel
theorem dMH_rowBy_15 : decode c_MH_rowBy 15 = .ok (.iload 6, 2) := by decide +kernel
theorem dMH_rowBy_17 : decode c_MH_rowBy 17 = .ok (.aload_n 0, 1) := by decide +kernel
theorem dMH_rowBy_18 : decode c_MH_rowBy 18 = .ok (.getfield 110, 3) := by decide +kernel
theorem dMH_rowBy_21 : decode c_MH_rowBy 21 = .ok (.if_icmp .ge 44, 3) := by decide +kernel
theorem dMH_rowBy_24 : decode c_MH_rowBy 24 = .ok (.lload 4, 2) := by decide +kernel
theorem dMH_rowBy_26 : decode c_MH_rowBy 26 = .ok (.aload_n 0, 1) := by decide +kernel
theorem dMH_rowBy_27 : decode c_MH_rowBy 27 = .ok (.getfield 21, 3) := by decide +kernel
theorem dMH_rowBy_30 : decode c_MH_rowBy 30 = .ok (.bipush 8, 2) := by decide +kernel
theorem dMH_rowBy_32 : decode c_MH_rowBy 32 = .ok (.iload_n 1, 1) := by decide +kernel
theorem dMH_rowBy_33 : decode c_MH_rowBy 33 = .ok (.imul, 1) := by decide +kernel
theorem dMH_rowBy_34 : decode c_MH_rowBy 34 = .ok (.iload 6, 2) := by decide +kernel
theorem dMH_rowBy_36 : decode c_MH_rowBy 36 = .ok (.iadd, 1) := by decide +kernel
theorem dMH_rowBy_37 : decode c_MH_rowBy 37 = .ok (.aaload, 1) := by decide +kernel
theorem dMH_rowBy_38 : decode c_MH_rowBy 38 = .ok (.iload_n 3, 1) := by decide +kernel
theorem dMH_rowBy_39 : decode c_MH_rowBy 39 = .ok (.iaload, 1) := by decide +kernel
theorem dMH_rowBy_40 : decode c_MH_rowBy 40 = .ok (.i2l, 1) := by decide +kernel
theorem dMH_rowBy_41 : decode c_MH_rowBy 41 = .ok (.aload_n 0, 1) := by decide +kernel
theorem dMH_rowBy_42 : decode c_MH_rowBy 42 = .ok (.getfield 42, 3) := by decide +kernel
theorem dMH_rowBy_45 : decode c_MH_rowBy 45 = .ok (.iload 6, 2) := by decide +kernel
theorem dMH_rowBy_47 : decode c_MH_rowBy 47 = .ok (.aaload, 1) := by decide +kernel
theorem dMH_rowBy_48 : decode c_MH_rowBy 48 = .ok (.iload_n 3, 1) := by decide +kernel
theorem dMH_rowBy_49 : decode c_MH_rowBy 49 = .ok (.iaload, 1) := by decide +kernel
theorem dMH_rowBy_50 : decode c_MH_rowBy 50 = .ok (.i2l, 1) := by decide +kernel
theorem dMH_rowBy_51 : decode c_MH_rowBy 51 = .ok (.lmul, 1) := by decide +kernel
theorem dMH_rowBy_52 : decode c_MH_rowBy 52 = .ok (.ldc2_w 159, 3) := by decide +kernel
theorem dMH_rowBy_55 : decode c_MH_rowBy 55 = .ok (.lrem, 1) := by decide +kernel
theorem dMH_rowBy_56 : decode c_MH_rowBy 56 = .ok (.ladd, 1) := by decide +kernel
theorem dMH_rowBy_57 : decode c_MH_rowBy 57 = .ok (.lstore 4, 2) := by decide +kernel
theorem dMH_rowBy_59 : decode c_MH_rowBy 59 = .ok (.iinc 6 1, 3) := by decide +kernel
theorem dMH_rowBy_62 : decode c_MH_rowBy 62 = .ok (.goto (-47), 3) := by decide +kernel
theorem dMH_rowBy_65 : decode c_MH_rowBy 65 = .ok (.aload_n 0, 1) := by decide +kernel
theorem dMH_rowBy_66 : decode c_MH_rowBy 66 = .ok (.getfield 58, 3) := by decide +kernel
theorem dMH_rowBy_69 : decode c_MH_rowBy 69 = .ok (.iload_n 3, 1) := by decide +kernel
theorem dMH_rowBy_70 : decode c_MH_rowBy 70 = .ok (.lload 4, 2) := by decide +kernel
theorem dMH_rowBy_72 : decode c_MH_rowBy 72 = .ok (.ldc2_w 159, 3) := by decide +kernel
theorem dMH_rowBy_75 : decode c_MH_rowBy 75 = .ok (.lrem, 1) := by decide +kernel
theorem dMH_rowBy_76 : decode c_MH_rowBy 76 = .ok (.l2i, 1) := by decide +kernel
theorem dMH_rowBy_77 : decode c_MH_rowBy 77 = .ok (.iastore, 1) := by decide +kernel
theorem dMH_rowBy_78 : decode c_MH_rowBy 78 = .ok (.iinc 3 1, 3) := by decide +kernel
theorem dMH_rowBy_81 : decode c_MH_rowBy 81 = .ok (.goto (-79), 3) := by decide +kernel
theorem dMH_rowBy_84 : decode c_MH_rowBy 84 = .ok (.aload_n 0, 1) := by decide +kernel
theorem dMH_rowBy_85 : decode c_MH_rowBy 85 = .ok (.getfield 15, 3) := by decide +kernel
theorem dMH_rowBy_88 : decode c_MH_rowBy 88 = .ok (.aload_n 0, 1) := by decide +kernel
theorem dMH_rowBy_89 : decode c_MH_rowBy 89 = .ok (.getfield 58, 3) := by decide +kernel
theorem dMH_rowBy_92 : decode c_MH_rowBy 92 = .ok (.aload_n 2, 1) := by decide +kernel
theorem dMH_rowBy_93 : decode c_MH_rowBy 93 = .ok (.iconst 1, 1) := by decide +kernel
theorem dMH_rowBy_94 : decode c_MH_rowBy 94 = .ok (.iconst 0, 1) := by decide +kernel
theorem dMH_rowBy_95 : decode c_MH_rowBy 95 = .ok (.invokevirtual 161, 3) := by decide +kernel
theorem dMH_rowBy_98 : decode c_MH_rowBy 98 = .ok (.return_, 1) := by decide +kernel
abbrev c_MH_turned : ByteArray := prog_13_method_10_code
abbrev y_MH_turned : MethodName := ⟨"LatticeKeysModel$Hands", "turned", "([I[I)V"⟩
abbrev w_MH_turned : List Cond := Cond.code y_MH_turned c_MH_turned 8 none :: WG
theorem dMH_turned_0 : decode c_MH_turned 0 = .ok (.iconst 0, 1) := by decide +kernel
theorem dMH_turned_1 : decode c_MH_turned 1 = .ok (.istore_n 3, 1) := by decide +kernel
theorem dMH_turned_2 : decode c_MH_turned 2 = .ok (.iload_n 3, 1) := by decide +kernel
theorem dMH_turned_3 : decode c_MH_turned 3 = .ok (.sipush 256, 3) := by decide +kernel
theorem dMH_turned_6 : decode c_MH_turned 6 = .ok (.if_icmp .ge 16, 3) := by decide +kernel
theorem dMH_turned_9 : decode c_MH_turned 9 = .ok (.aload_n 0, 1) := by decide +kernel
theorem dMH_turned_10 : decode c_MH_turned 10 = .ok (.getfield 61, 3) := by decide +kernel
theorem dMH_turned_13 : decode c_MH_turned 13 = .ok (.iload_n 3, 1) := by decide +kernel
theorem dMH_turned_14 : decode c_MH_turned 14 = .ok (.lconst 0, 1) := by decide +kernel
theorem dMH_turned_15 : decode c_MH_turned 15 = .ok (.lastore, 1) := by decide +kernel
theorem dMH_turned_16 : decode c_MH_turned 16 = .ok (.iinc 3 1, 3) := by decide +kernel
theorem dMH_turned_19 : decode c_MH_turned 19 = .ok (.goto (-17), 3) := by decide +kernel
theorem dMH_turned_22 : decode c_MH_turned 22 = .ok (.iconst 0, 1) := by decide +kernel
theorem dMH_turned_23 : decode c_MH_turned 23 = .ok (.istore_n 3, 1) := by decide +kernel
theorem dMH_turned_24 : decode c_MH_turned 24 = .ok (.iload_n 3, 1) := by decide +kernel
theorem dMH_turned_25 : decode c_MH_turned 25 = .ok (.sipush 256, 3) := by decide +kernel
theorem dMH_turned_28 : decode c_MH_turned 28 = .ok (.if_icmp .ge 98, 3) := by decide +kernel
theorem dMH_turned_31 : decode c_MH_turned 31 = .ok (.aload_n 0, 1) := by decide +kernel
theorem dMH_turned_32 : decode c_MH_turned 32 = .ok (.getfield 51, 3) := by decide +kernel
theorem dMH_turned_35 : decode c_MH_turned 35 = .ok (.iload_n 3, 1) := by decide +kernel
theorem dMH_turned_36 : decode c_MH_turned 36 = .ok (.iaload, 1) := by decide +kernel
theorem dMH_turned_37 : decode c_MH_turned 37 = .ok (.ifCond .ne 6, 3) := by decide +kernel
theorem dMH_turned_40 : decode c_MH_turned 40 = .ok (.goto 80, 3) := by decide +kernel
theorem dMH_turned_43 : decode c_MH_turned 43 = .ok (.iconst 0, 1) := by decide +kernel
theorem dMH_turned_44 : decode c_MH_turned 44 = .ok (.istore 4, 2) := by decide +kernel
theorem dMH_turned_46 : decode c_MH_turned 46 = .ok (.iload 4, 2) := by decide +kernel
theorem dMH_turned_48 : decode c_MH_turned 48 = .ok (.sipush 256, 3) := by decide +kernel
theorem dMH_turned_51 : decode c_MH_turned 51 = .ok (.if_icmp .ge 69, 3) := by decide +kernel
theorem dMH_turned_54 : decode c_MH_turned 54 = .ok (.iload_n 3, 1) := by decide +kernel
theorem dMH_turned_55 : decode c_MH_turned 55 = .ok (.iload 4, 2) := by decide +kernel
theorem dMH_turned_57 : decode c_MH_turned 57 = .ok (.iadd, 1) := by decide +kernel
theorem dMH_turned_58 : decode c_MH_turned 58 = .ok (.istore 5, 2) := by decide +kernel
theorem dMH_turned_60 : decode c_MH_turned 60 = .ok (.aload_n 0, 1) := by decide +kernel
theorem dMH_turned_61 : decode c_MH_turned 61 = .ok (.getfield 51, 3) := by decide +kernel
theorem dMH_turned_64 : decode c_MH_turned 64 = .ok (.iload_n 3, 1) := by decide +kernel
theorem dMH_turned_65 : decode c_MH_turned 65 = .ok (.iaload, 1) := by decide +kernel
theorem dMH_turned_66 : decode c_MH_turned 66 = .ok (.i2l, 1) := by decide +kernel
theorem dMH_turned_67 : decode c_MH_turned 67 = .ok (.aload_n 1, 1) := by decide +kernel
theorem dMH_turned_68 : decode c_MH_turned 68 = .ok (.iload 4, 2) := by decide +kernel
theorem dMH_turned_70 : decode c_MH_turned 70 = .ok (.iaload, 1) := by decide +kernel
theorem dMH_turned_71 : decode c_MH_turned 71 = .ok (.i2l, 1) := by decide +kernel
theorem dMH_turned_72 : decode c_MH_turned 72 = .ok (.lmul, 1) := by decide +kernel
theorem dMH_turned_73 : decode c_MH_turned 73 = .ok (.lstore 6, 2) := by decide +kernel
theorem dMH_turned_75 : decode c_MH_turned 75 = .ok (.iload 5, 2) := by decide +kernel
theorem dMH_turned_77 : decode c_MH_turned 77 = .ok (.sipush 256, 3) := by decide +kernel
theorem dMH_turned_80 : decode c_MH_turned 80 = .ok (.if_icmp .ge 18, 3) := by decide +kernel
theorem dMH_turned_83 : decode c_MH_turned 83 = .ok (.aload_n 0, 1) := by decide +kernel
theorem dMH_turned_84 : decode c_MH_turned 84 = .ok (.getfield 61, 3) := by decide +kernel
theorem dMH_turned_87 : decode c_MH_turned 87 = .ok (.iload 5, 2) := by decide +kernel
theorem dMH_turned_89 : decode c_MH_turned 89 = .ok (.dup2, 1) := by decide +kernel
theorem dMH_turned_90 : decode c_MH_turned 90 = .ok (.laload, 1) := by decide +kernel
theorem dMH_turned_91 : decode c_MH_turned 91 = .ok (.lload 6, 2) := by decide +kernel
theorem dMH_turned_93 : decode c_MH_turned 93 = .ok (.ladd, 1) := by decide +kernel
theorem dMH_turned_94 : decode c_MH_turned 94 = .ok (.lastore, 1) := by decide +kernel
theorem dMH_turned_95 : decode c_MH_turned 95 = .ok (.goto 19, 3) := by decide +kernel
theorem dMH_turned_98 : decode c_MH_turned 98 = .ok (.aload_n 0, 1) := by decide +kernel
theorem dMH_turned_99 : decode c_MH_turned 99 = .ok (.getfield 61, 3) := by decide +kernel
theorem dMH_turned_102 : decode c_MH_turned 102 = .ok (.iload 5, 2) := by decide +kernel
theorem dMH_turned_104 : decode c_MH_turned 104 = .ok (.sipush 256, 3) := by decide +kernel
theorem dMH_turned_107 : decode c_MH_turned 107 = .ok (.isub, 1) := by decide +kernel
theorem dMH_turned_108 : decode c_MH_turned 108 = .ok (.dup2, 1) := by decide +kernel
theorem dMH_turned_109 : decode c_MH_turned 109 = .ok (.laload, 1) := by decide +kernel
theorem dMH_turned_110 : decode c_MH_turned 110 = .ok (.lload 6, 2) := by decide +kernel
theorem dMH_turned_112 : decode c_MH_turned 112 = .ok (.lsub, 1) := by decide +kernel
theorem dMH_turned_113 : decode c_MH_turned 113 = .ok (.lastore, 1) := by decide +kernel
theorem dMH_turned_114 : decode c_MH_turned 114 = .ok (.iinc 4 1, 3) := by decide +kernel
theorem dMH_turned_117 : decode c_MH_turned 117 = .ok (.goto (-71), 3) := by decide +kernel
theorem dMH_turned_120 : decode c_MH_turned 120 = .ok (.iinc 3 1, 3) := by decide +kernel
theorem dMH_turned_123 : decode c_MH_turned 123 = .ok (.goto (-99), 3) := by decide +kernel
theorem dMH_turned_126 : decode c_MH_turned 126 = .ok (.iconst 0, 1) := by decide +kernel
theorem dMH_turned_127 : decode c_MH_turned 127 = .ok (.istore_n 3, 1) := by decide +kernel
theorem dMH_turned_128 : decode c_MH_turned 128 = .ok (.iload_n 3, 1) := by decide +kernel
theorem dMH_turned_129 : decode c_MH_turned 129 = .ok (.sipush 256, 3) := by decide +kernel
theorem dMH_turned_132 : decode c_MH_turned 132 = .ok (.if_icmp .ge 43, 3) := by decide +kernel
theorem dMH_turned_135 : decode c_MH_turned 135 = .ok (.aload_n 0, 1) := by decide +kernel
theorem dMH_turned_136 : decode c_MH_turned 136 = .ok (.getfield 61, 3) := by decide +kernel
theorem dMH_turned_139 : decode c_MH_turned 139 = .ok (.iload_n 3, 1) := by decide +kernel
theorem dMH_turned_140 : decode c_MH_turned 140 = .ok (.laload, 1) := by decide +kernel
theorem dMH_turned_141 : decode c_MH_turned 141 = .ok (.ldc2_w 159, 3) := by decide +kernel
theorem dMH_turned_144 : decode c_MH_turned 144 = .ok (.lrem, 1) := by decide +kernel
theorem dMH_turned_145 : decode c_MH_turned 145 = .ok (.lstore 4, 2) := by decide +kernel
theorem dMH_turned_147 : decode c_MH_turned 147 = .ok (.aload_n 2, 1) := by decide +kernel
theorem dMH_turned_148 : decode c_MH_turned 148 = .ok (.iload_n 3, 1) := by decide +kernel
theorem dMH_turned_149 : decode c_MH_turned 149 = .ok (.lload 4, 2) := by decide +kernel
theorem dMH_turned_151 : decode c_MH_turned 151 = .ok (.lconst 0, 1) := by decide +kernel
theorem dMH_turned_152 : decode c_MH_turned 152 = .ok (.lcmp, 1) := by decide +kernel
theorem dMH_turned_153 : decode c_MH_turned 153 = .ok (.ifCond .ge 12, 3) := by decide +kernel
theorem dMH_turned_156 : decode c_MH_turned 156 = .ok (.lload 4, 2) := by decide +kernel
theorem dMH_turned_158 : decode c_MH_turned 158 = .ok (.ldc2_w 159, 3) := by decide +kernel
theorem dMH_turned_161 : decode c_MH_turned 161 = .ok (.ladd, 1) := by decide +kernel
theorem dMH_turned_162 : decode c_MH_turned 162 = .ok (.goto 5, 3) := by decide +kernel
theorem dMH_turned_165 : decode c_MH_turned 165 = .ok (.lload 4, 2) := by decide +kernel
theorem dMH_turned_167 : decode c_MH_turned 167 = .ok (.l2i, 1) := by decide +kernel
theorem dMH_turned_168 : decode c_MH_turned 168 = .ok (.iastore, 1) := by decide +kernel
theorem dMH_turned_169 : decode c_MH_turned 169 = .ok (.iinc 3 1, 3) := by decide +kernel
theorem dMH_turned_172 : decode c_MH_turned 172 = .ok (.goto (-44), 3) := by decide +kernel
theorem dMH_turned_175 : decode c_MH_turned 175 = .ok (.return_, 1) := by decide +kernel
def M_MH_openSize_0 (k : Nat) : Prop := (0 : Nat) = 1
noncomputable def F_MH_openSize_0 (s : Sto) : Int32 × Sto := (nI 1312, s)
set_option maxHeartbeats 8000000 in
set_option maxRecDepth 100000 in
theorem N_MH_openSize_0 (l : Launch) (g : Gd) (sz : Nat) (T : TyN) (s : Sto) (pl : va_W) (hO : okn g T s pl) (hU : inj T)   : Met l y_MH_openSize w_MH_openSize ({ frames := 0, cells := 0, slots := 0, locals := 0 } : Room) (va_Pc [.int (nI 0)] (pr (en g) g.1 vcl sz ([] ++ pl))) (va_Qi (fun (r : Int32) (u : (Int32 × Sto) × va_W) => (u.1 = F_MH_openSize_0 s ∧ r = u.1.1 ∧ frm (M_MH_openSize_0) s u.1.2 ∧ (∃ x : Nat, u.1.1 = nI x ∧ x < 1313) ∧ (u.1.1 = nI 1312) ∧ True) ∧ okn g T u.1.2 u.2) (po g.1 vcl (va_A ([] ++ pl) sz) (fun (u : (Int32 × Sto) × va_W) => [] ++ u.2)) (va_A ([] ++ pl) sz)) 0 0 (va_A ([] ++ pl) sz) := by
  refine mc_entry (cc := c_MH_openSize) (maxL := 1) (ret := (some .int)) (by decide) rfl (Nat.le_of_ble_eq_true rfl) ?_
  intro p e s0 m args below meth c ls F hr hlk hnm hsz hP hD hE hA hl
  obtain ⟨hx, hb, hml, hown, hts⟩ := id F
  have hK := hE.1
  generalize va_A ([] ++ pl) sz = A at hD hE hA ⊢
  have hS : va_S A s0.heap s0.heap [] := va_S.rf
  have hl : lv_has ls 1 [(0, .int (nI 0))] := hl
  have hR : F_MH_openSize_0 s = F_MH_openSize_0 s := rfl
  have hF : frm (M_MH_openSize_0) s s := frm_rf
  refine lv_bipush (v := nI 32) hx hb dMH_openSize_0 (by decide) ?_
  refine lv_sipush (v := nI 320) hx hb dMH_openSize_2 (by decide) ?_
  refine va_gets hx hb (hE.2.1 23 _ rfl).1 hS hown (hts _ (wg_t kw_1706)) (fun _ h9 => h9) dMH_openSize_5 ?_
  refine lv_iload_n hx hb dMH_openSize_8 rfl (lv_at hl 0 rfl) ?_
  refine va_ti (v := .int (nI 4)) hx hb (hE.2.1 23 _ rfl).2 hS (vp_in_nI (by decide) (by decide)) (by decide +kernel) dMH_openSize_9 ?_
  refine mi_imul hx hb dMH_openSize_10 ?_
  refine mi_as (show nI (320 * 4) = nI 1280 from rfl) ?_
  refine mi_iadd hx hb dMH_openSize_11 ?_
  refine mi_as (show nI (32 + 1280) = nI 1312 from rfl) ?_
  exact mp_iret hx hb hr hlk hP hD hS ((nI 1312, s), pl) ⟨⟨hR.symm, rfl, hF, ⟨1312, rfl, by omega⟩, rfl, trivial⟩, hO⟩ [] rfl rfl rfl (by omega) (by omega) dMH_openSize_12
def M_MH_openSize_1 (k : Nat) : Prop := (0 : Nat) = 1
noncomputable def F_MH_openSize_1 (s : Sto) : Int32 × Sto := (nI 1952, s)
set_option maxHeartbeats 8000000 in
set_option maxRecDepth 100000 in
theorem N_MH_openSize_1 (l : Launch) (g : Gd) (sz : Nat) (T : TyN) (s : Sto) (pl : va_W) (hO : okn g T s pl) (hU : inj T)   : Met l y_MH_openSize w_MH_openSize ({ frames := 0, cells := 0, slots := 0, locals := 0 } : Room) (va_Pc [.int (nI 1)] (pr (en g) g.1 vcl sz ([] ++ pl))) (va_Qi (fun (r : Int32) (u : (Int32 × Sto) × va_W) => (u.1 = F_MH_openSize_1 s ∧ r = u.1.1 ∧ frm (M_MH_openSize_1) s u.1.2 ∧ (∃ x : Nat, u.1.1 = nI x ∧ x < 1953) ∧ (u.1.1 = nI 1952) ∧ True) ∧ okn g T u.1.2 u.2) (po g.1 vcl (va_A ([] ++ pl) sz) (fun (u : (Int32 × Sto) × va_W) => [] ++ u.2)) (va_A ([] ++ pl) sz)) 0 0 (va_A ([] ++ pl) sz) := by
  refine mc_entry (cc := c_MH_openSize) (maxL := 1) (ret := (some .int)) (by decide) rfl (Nat.le_of_ble_eq_true rfl) ?_
  intro p e s0 m args below meth c ls F hr hlk hnm hsz hP hD hE hA hl
  obtain ⟨hx, hb, hml, hown, hts⟩ := id F
  have hK := hE.1
  generalize va_A ([] ++ pl) sz = A at hD hE hA ⊢
  have hS : va_S A s0.heap s0.heap [] := va_S.rf
  have hl : lv_has ls 1 [(0, .int (nI 1))] := hl
  have hR : F_MH_openSize_1 s = F_MH_openSize_1 s := rfl
  have hF : frm (M_MH_openSize_1) s s := frm_rf
  refine lv_bipush (v := nI 32) hx hb dMH_openSize_0 (by decide) ?_
  refine lv_sipush (v := nI 320) hx hb dMH_openSize_2 (by decide) ?_
  refine va_gets hx hb (hE.2.1 23 _ rfl).1 hS hown (hts _ (wg_t kw_1706)) (fun _ h9 => h9) dMH_openSize_5 ?_
  refine lv_iload_n hx hb dMH_openSize_8 rfl (lv_at hl 0 rfl) ?_
  refine va_ti (v := .int (nI 6)) hx hb (hE.2.1 23 _ rfl).2 hS (vp_in_nI (by decide) (by decide)) (by decide +kernel) dMH_openSize_9 ?_
  refine mi_imul hx hb dMH_openSize_10 ?_
  refine mi_as (show nI (320 * 6) = nI 1920 from rfl) ?_
  refine mi_iadd hx hb dMH_openSize_11 ?_
  refine mi_as (show nI (32 + 1920) = nI 1952 from rfl) ?_
  exact mp_iret hx hb hr hlk hP hD hS ((nI 1952, s), pl) ⟨⟨hR.symm, rfl, hF, ⟨1952, rfl, by omega⟩, rfl, trivial⟩, hO⟩ [] rfl rfl rfl (by omega) (by omega) dMH_openSize_12
def M_MH_openSize_2 (k : Nat) : Prop := (0 : Nat) = 1
noncomputable def F_MH_openSize_2 (s : Sto) : Int32 × Sto := (nI 2592, s)
set_option maxHeartbeats 8000000 in
set_option maxRecDepth 100000 in
theorem N_MH_openSize_2 (l : Launch) (g : Gd) (sz : Nat) (T : TyN) (s : Sto) (pl : va_W) (hO : okn g T s pl) (hU : inj T)   : Met l y_MH_openSize w_MH_openSize ({ frames := 0, cells := 0, slots := 0, locals := 0 } : Room) (va_Pc [.int (nI 2)] (pr (en g) g.1 vcl sz ([] ++ pl))) (va_Qi (fun (r : Int32) (u : (Int32 × Sto) × va_W) => (u.1 = F_MH_openSize_2 s ∧ r = u.1.1 ∧ frm (M_MH_openSize_2) s u.1.2 ∧ (∃ x : Nat, u.1.1 = nI x ∧ x < 2593) ∧ (u.1.1 = nI 2592) ∧ True) ∧ okn g T u.1.2 u.2) (po g.1 vcl (va_A ([] ++ pl) sz) (fun (u : (Int32 × Sto) × va_W) => [] ++ u.2)) (va_A ([] ++ pl) sz)) 0 0 (va_A ([] ++ pl) sz) := by
  refine mc_entry (cc := c_MH_openSize) (maxL := 1) (ret := (some .int)) (by decide) rfl (Nat.le_of_ble_eq_true rfl) ?_
  intro p e s0 m args below meth c ls F hr hlk hnm hsz hP hD hE hA hl
  obtain ⟨hx, hb, hml, hown, hts⟩ := id F
  have hK := hE.1
  generalize va_A ([] ++ pl) sz = A at hD hE hA ⊢
  have hS : va_S A s0.heap s0.heap [] := va_S.rf
  have hl : lv_has ls 1 [(0, .int (nI 2))] := hl
  have hR : F_MH_openSize_2 s = F_MH_openSize_2 s := rfl
  have hF : frm (M_MH_openSize_2) s s := frm_rf
  refine lv_bipush (v := nI 32) hx hb dMH_openSize_0 (by decide) ?_
  refine lv_sipush (v := nI 320) hx hb dMH_openSize_2 (by decide) ?_
  refine va_gets hx hb (hE.2.1 23 _ rfl).1 hS hown (hts _ (wg_t kw_1706)) (fun _ h9 => h9) dMH_openSize_5 ?_
  refine lv_iload_n hx hb dMH_openSize_8 rfl (lv_at hl 0 rfl) ?_
  refine va_ti (v := .int (nI 8)) hx hb (hE.2.1 23 _ rfl).2 hS (vp_in_nI (by decide) (by decide)) (by decide +kernel) dMH_openSize_9 ?_
  refine mi_imul hx hb dMH_openSize_10 ?_
  refine mi_as (show nI (320 * 8) = nI 2560 from rfl) ?_
  refine mi_iadd hx hb dMH_openSize_11 ?_
  refine mi_as (show nI (32 + 2560) = nI 2592 from rfl) ?_
  exact mp_iret hx hb hr hlk hP hD hS ((nI 2592, s), pl) ⟨⟨hR.symm, rfl, hF, ⟨2592, rfl, by omega⟩, rfl, trivial⟩, hO⟩ [] rfl rfl rfl (by omega) (by omega) dMH_openSize_12
def M_MH_hiddenSize_0 (k : Nat) : Prop := (0 : Nat) = 1
noncomputable def F_MH_hiddenSize_0 (s : Sto) : Int32 × Sto := (nI 2560, s)
set_option maxHeartbeats 8000000 in
set_option maxRecDepth 100000 in
theorem N_MH_hiddenSize_0 (l : Launch) (g : Gd) (sz : Nat) (T : TyN) (s : Sto) (pl : va_W) (hO : okn g T s pl) (hU : inj T)   : Met l y_MH_hiddenSize w_MH_hiddenSize ({ frames := 0, cells := 0, slots := 0, locals := 0 } : Room) (va_Pc [.int (nI 0)] (pr (en g) g.1 vcl sz ([] ++ pl))) (va_Qi (fun (r : Int32) (u : (Int32 × Sto) × va_W) => (u.1 = F_MH_hiddenSize_0 s ∧ r = u.1.1 ∧ frm (M_MH_hiddenSize_0) s u.1.2 ∧ (∃ x : Nat, u.1.1 = nI x ∧ x < 2561) ∧ (u.1.1 = nI 2560) ∧ True) ∧ okn g T u.1.2 u.2) (po g.1 vcl (va_A ([] ++ pl) sz) (fun (u : (Int32 × Sto) × va_W) => [] ++ u.2)) (va_A ([] ++ pl) sz)) 0 0 (va_A ([] ++ pl) sz) := by
  refine mc_entry (cc := c_MH_hiddenSize) (maxL := 1) (ret := (some .int)) (by decide) rfl (Nat.le_of_ble_eq_true rfl) ?_
  intro p e s0 m args below meth c ls F hr hlk hnm hsz hP hD hE hA hl
  obtain ⟨hx, hb, hml, hown, hts⟩ := id F
  have hK := hE.1
  generalize va_A ([] ++ pl) sz = A at hD hE hA ⊢
  have hS : va_S A s0.heap s0.heap [] := va_S.rf
  have hl : lv_has ls 1 [(0, .int (nI 0))] := hl
  have hR : F_MH_hiddenSize_0 s = F_MH_hiddenSize_0 s := rfl
  have hF : frm (M_MH_hiddenSize_0) s s := frm_rf
  refine lv_sipush (v := nI 128) hx hb dMH_hiddenSize_0 (by decide) ?_
  refine lv_bipush (v := nI 32) hx hb dMH_hiddenSize_3 (by decide) ?_
  refine va_gets hx hb (hE.2.1 25 _ rfl).1 hS hown (hts _ (wg_t kw_1710)) (fun _ h9 => h9) dMH_hiddenSize_5 ?_
  refine lv_iload_n hx hb dMH_hiddenSize_8 rfl (lv_at hl 0 rfl) ?_
  refine va_ti (v := .int (nI 2)) hx hb (hE.2.1 25 _ rfl).2 hS (vp_in_nI (by decide) (by decide)) (by decide +kernel) dMH_hiddenSize_9 ?_
  refine lv_iconst (v := nI 2) hx hb dMH_hiddenSize_10 (by decide) ?_
  refine mi_ne (tgt := 18) hx hb dMH_hiddenSize_11 (by decide) (by omega) (by omega) (fun h21 => absurd h21 (by omega)) (fun h21 => ?_)
  refine lv_iconst (v := nI 3) hx hb dMH_hiddenSize_14 (by decide) ?_
  refine lv_goto (tgt := 19) hx hb dMH_hiddenSize_15 (by decide) ?_
  refine mi_imul hx hb dMH_hiddenSize_19 ?_
  refine mi_as (show nI (32 * 3) = nI 96 from rfl) ?_
  refine va_gets hx hb (hE.2.1 23 _ rfl).1 hS hown (hts _ (wg_t kw_1706)) (fun _ h9 => h9) dMH_hiddenSize_20 ?_
  refine lv_iload_n hx hb dMH_hiddenSize_23 rfl (lv_at hl 0 rfl) ?_
  refine va_ti (v := .int (nI 4)) hx hb (hE.2.1 23 _ rfl).2 hS (vp_in_nI (by decide) (by decide)) (by decide +kernel) dMH_hiddenSize_24 ?_
  refine va_gets hx hb (hE.2.1 24 _ rfl).1 hS hown (hts _ (wg_t kw_1708)) (fun _ h9 => h9) dMH_hiddenSize_25 ?_
  refine lv_iload_n hx hb dMH_hiddenSize_28 rfl (lv_at hl 0 rfl) ?_
  refine va_ti (v := .int (nI 4)) hx hb (hE.2.1 24 _ rfl).2 hS (vp_in_nI (by decide) (by decide)) (by decide +kernel) dMH_hiddenSize_29 ?_
  refine mi_iadd hx hb dMH_hiddenSize_30 ?_
  refine mi_as (show nI (4 + 4) = nI 8 from rfl) ?_
  refine mi_imul hx hb dMH_hiddenSize_31 ?_
  refine mi_as (show nI (96 * 8) = nI 768 from rfl) ?_
  refine mi_iadd hx hb dMH_hiddenSize_32 ?_
  refine mi_as (show nI (128 + 768) = nI 896 from rfl) ?_
  refine lv_sipush (v := nI 416) hx hb dMH_hiddenSize_33 (by decide) ?_
  refine va_gets hx hb (hE.2.1 23 _ rfl).1 hS hown (hts _ (wg_t kw_1706)) (fun _ h9 => h9) dMH_hiddenSize_36 ?_
  refine lv_iload_n hx hb dMH_hiddenSize_39 rfl (lv_at hl 0 rfl) ?_
  refine va_ti (v := .int (nI 4)) hx hb (hE.2.1 23 _ rfl).2 hS (vp_in_nI (by decide) (by decide)) (by decide +kernel) dMH_hiddenSize_40 ?_
  refine mi_imul hx hb dMH_hiddenSize_41 ?_
  refine mi_as (show nI (416 * 4) = nI 1664 from rfl) ?_
  refine mi_iadd hx hb dMH_hiddenSize_42 ?_
  refine mi_as (show nI (896 + 1664) = nI 2560 from rfl) ?_
  exact mp_iret hx hb hr hlk hP hD hS ((nI 2560, s), pl) ⟨⟨hR.symm, rfl, hF, ⟨2560, rfl, by omega⟩, rfl, trivial⟩, hO⟩ [] rfl rfl rfl (by omega) (by omega) dMH_hiddenSize_43
def M_MH_hiddenSize_1 (k : Nat) : Prop := (0 : Nat) = 1
noncomputable def F_MH_hiddenSize_1 (s : Sto) : Int32 × Sto := (nI 4032, s)
set_option maxHeartbeats 8000000 in
set_option maxRecDepth 100000 in
theorem N_MH_hiddenSize_1 (l : Launch) (g : Gd) (sz : Nat) (T : TyN) (s : Sto) (pl : va_W) (hO : okn g T s pl) (hU : inj T)   : Met l y_MH_hiddenSize w_MH_hiddenSize ({ frames := 0, cells := 0, slots := 0, locals := 0 } : Room) (va_Pc [.int (nI 1)] (pr (en g) g.1 vcl sz ([] ++ pl))) (va_Qi (fun (r : Int32) (u : (Int32 × Sto) × va_W) => (u.1 = F_MH_hiddenSize_1 s ∧ r = u.1.1 ∧ frm (M_MH_hiddenSize_1) s u.1.2 ∧ (∃ x : Nat, u.1.1 = nI x ∧ x < 4033) ∧ (u.1.1 = nI 4032) ∧ True) ∧ okn g T u.1.2 u.2) (po g.1 vcl (va_A ([] ++ pl) sz) (fun (u : (Int32 × Sto) × va_W) => [] ++ u.2)) (va_A ([] ++ pl) sz)) 0 0 (va_A ([] ++ pl) sz) := by
  refine mc_entry (cc := c_MH_hiddenSize) (maxL := 1) (ret := (some .int)) (by decide) rfl (Nat.le_of_ble_eq_true rfl) ?_
  intro p e s0 m args below meth c ls F hr hlk hnm hsz hP hD hE hA hl
  obtain ⟨hx, hb, hml, hown, hts⟩ := id F
  have hK := hE.1
  generalize va_A ([] ++ pl) sz = A at hD hE hA ⊢
  have hS : va_S A s0.heap s0.heap [] := va_S.rf
  have hl : lv_has ls 1 [(0, .int (nI 1))] := hl
  have hR : F_MH_hiddenSize_1 s = F_MH_hiddenSize_1 s := rfl
  have hF : frm (M_MH_hiddenSize_1) s s := frm_rf
  refine lv_sipush (v := nI 128) hx hb dMH_hiddenSize_0 (by decide) ?_
  refine lv_bipush (v := nI 32) hx hb dMH_hiddenSize_3 (by decide) ?_
  refine va_gets hx hb (hE.2.1 25 _ rfl).1 hS hown (hts _ (wg_t kw_1710)) (fun _ h9 => h9) dMH_hiddenSize_5 ?_
  refine lv_iload_n hx hb dMH_hiddenSize_8 rfl (lv_at hl 0 rfl) ?_
  refine va_ti (v := .int (nI 4)) hx hb (hE.2.1 25 _ rfl).2 hS (vp_in_nI (by decide) (by decide)) (by decide +kernel) dMH_hiddenSize_9 ?_
  refine lv_iconst (v := nI 2) hx hb dMH_hiddenSize_10 (by decide) ?_
  refine mi_ne (tgt := 18) hx hb dMH_hiddenSize_11 (by decide) (by omega) (by omega) (fun h21 => ?_) (fun h21 => absurd h21 (by omega))
  refine lv_iconst (v := nI 4) hx hb dMH_hiddenSize_18 (by decide) ?_
  refine mi_imul hx hb dMH_hiddenSize_19 ?_
  refine mi_as (show nI (32 * 4) = nI 128 from rfl) ?_
  refine va_gets hx hb (hE.2.1 23 _ rfl).1 hS hown (hts _ (wg_t kw_1706)) (fun _ h9 => h9) dMH_hiddenSize_20 ?_
  refine lv_iload_n hx hb dMH_hiddenSize_23 rfl (lv_at hl 0 rfl) ?_
  refine va_ti (v := .int (nI 6)) hx hb (hE.2.1 23 _ rfl).2 hS (vp_in_nI (by decide) (by decide)) (by decide +kernel) dMH_hiddenSize_24 ?_
  refine va_gets hx hb (hE.2.1 24 _ rfl).1 hS hown (hts _ (wg_t kw_1708)) (fun _ h9 => h9) dMH_hiddenSize_25 ?_
  refine lv_iload_n hx hb dMH_hiddenSize_28 rfl (lv_at hl 0 rfl) ?_
  refine va_ti (v := .int (nI 5)) hx hb (hE.2.1 24 _ rfl).2 hS (vp_in_nI (by decide) (by decide)) (by decide +kernel) dMH_hiddenSize_29 ?_
  refine mi_iadd hx hb dMH_hiddenSize_30 ?_
  refine mi_as (show nI (6 + 5) = nI 11 from rfl) ?_
  refine mi_imul hx hb dMH_hiddenSize_31 ?_
  refine mi_as (show nI (128 * 11) = nI 1408 from rfl) ?_
  refine mi_iadd hx hb dMH_hiddenSize_32 ?_
  refine mi_as (show nI (128 + 1408) = nI 1536 from rfl) ?_
  refine lv_sipush (v := nI 416) hx hb dMH_hiddenSize_33 (by decide) ?_
  refine va_gets hx hb (hE.2.1 23 _ rfl).1 hS hown (hts _ (wg_t kw_1706)) (fun _ h9 => h9) dMH_hiddenSize_36 ?_
  refine lv_iload_n hx hb dMH_hiddenSize_39 rfl (lv_at hl 0 rfl) ?_
  refine va_ti (v := .int (nI 6)) hx hb (hE.2.1 23 _ rfl).2 hS (vp_in_nI (by decide) (by decide)) (by decide +kernel) dMH_hiddenSize_40 ?_
  refine mi_imul hx hb dMH_hiddenSize_41 ?_
  refine mi_as (show nI (416 * 6) = nI 2496 from rfl) ?_
  refine mi_iadd hx hb dMH_hiddenSize_42 ?_
  refine mi_as (show nI (1536 + 2496) = nI 4032 from rfl) ?_
  exact mp_iret hx hb hr hlk hP hD hS ((nI 4032, s), pl) ⟨⟨hR.symm, rfl, hF, ⟨4032, rfl, by omega⟩, rfl, trivial⟩, hO⟩ [] rfl rfl rfl (by omega) (by omega) dMH_hiddenSize_43
def M_MH_hiddenSize_2 (k : Nat) : Prop := (0 : Nat) = 1
noncomputable def F_MH_hiddenSize_2 (s : Sto) : Int32 × Sto := (nI 4896, s)
set_option maxHeartbeats 8000000 in
set_option maxRecDepth 100000 in
theorem N_MH_hiddenSize_2 (l : Launch) (g : Gd) (sz : Nat) (T : TyN) (s : Sto) (pl : va_W) (hO : okn g T s pl) (hU : inj T)   : Met l y_MH_hiddenSize w_MH_hiddenSize ({ frames := 0, cells := 0, slots := 0, locals := 0 } : Room) (va_Pc [.int (nI 2)] (pr (en g) g.1 vcl sz ([] ++ pl))) (va_Qi (fun (r : Int32) (u : (Int32 × Sto) × va_W) => (u.1 = F_MH_hiddenSize_2 s ∧ r = u.1.1 ∧ frm (M_MH_hiddenSize_2) s u.1.2 ∧ (∃ x : Nat, u.1.1 = nI x ∧ x < 4897) ∧ (u.1.1 = nI 4896) ∧ True) ∧ okn g T u.1.2 u.2) (po g.1 vcl (va_A ([] ++ pl) sz) (fun (u : (Int32 × Sto) × va_W) => [] ++ u.2)) (va_A ([] ++ pl) sz)) 0 0 (va_A ([] ++ pl) sz) := by
  refine mc_entry (cc := c_MH_hiddenSize) (maxL := 1) (ret := (some .int)) (by decide) rfl (Nat.le_of_ble_eq_true rfl) ?_
  intro p e s0 m args below meth c ls F hr hlk hnm hsz hP hD hE hA hl
  obtain ⟨hx, hb, hml, hown, hts⟩ := id F
  have hK := hE.1
  generalize va_A ([] ++ pl) sz = A at hD hE hA ⊢
  have hS : va_S A s0.heap s0.heap [] := va_S.rf
  have hl : lv_has ls 1 [(0, .int (nI 2))] := hl
  have hR : F_MH_hiddenSize_2 s = F_MH_hiddenSize_2 s := rfl
  have hF : frm (M_MH_hiddenSize_2) s s := frm_rf
  refine lv_sipush (v := nI 128) hx hb dMH_hiddenSize_0 (by decide) ?_
  refine lv_bipush (v := nI 32) hx hb dMH_hiddenSize_3 (by decide) ?_
  refine va_gets hx hb (hE.2.1 25 _ rfl).1 hS hown (hts _ (wg_t kw_1710)) (fun _ h9 => h9) dMH_hiddenSize_5 ?_
  refine lv_iload_n hx hb dMH_hiddenSize_8 rfl (lv_at hl 0 rfl) ?_
  refine va_ti (v := .int (nI 2)) hx hb (hE.2.1 25 _ rfl).2 hS (vp_in_nI (by decide) (by decide)) (by decide +kernel) dMH_hiddenSize_9 ?_
  refine lv_iconst (v := nI 2) hx hb dMH_hiddenSize_10 (by decide) ?_
  refine mi_ne (tgt := 18) hx hb dMH_hiddenSize_11 (by decide) (by omega) (by omega) (fun h21 => absurd h21 (by omega)) (fun h21 => ?_)
  refine lv_iconst (v := nI 3) hx hb dMH_hiddenSize_14 (by decide) ?_
  refine lv_goto (tgt := 19) hx hb dMH_hiddenSize_15 (by decide) ?_
  refine mi_imul hx hb dMH_hiddenSize_19 ?_
  refine mi_as (show nI (32 * 3) = nI 96 from rfl) ?_
  refine va_gets hx hb (hE.2.1 23 _ rfl).1 hS hown (hts _ (wg_t kw_1706)) (fun _ h9 => h9) dMH_hiddenSize_20 ?_
  refine lv_iload_n hx hb dMH_hiddenSize_23 rfl (lv_at hl 0 rfl) ?_
  refine va_ti (v := .int (nI 8)) hx hb (hE.2.1 23 _ rfl).2 hS (vp_in_nI (by decide) (by decide)) (by decide +kernel) dMH_hiddenSize_24 ?_
  refine va_gets hx hb (hE.2.1 24 _ rfl).1 hS hown (hts _ (wg_t kw_1708)) (fun _ h9 => h9) dMH_hiddenSize_25 ?_
  refine lv_iload_n hx hb dMH_hiddenSize_28 rfl (lv_at hl 0 rfl) ?_
  refine va_ti (v := .int (nI 7)) hx hb (hE.2.1 24 _ rfl).2 hS (vp_in_nI (by decide) (by decide)) (by decide +kernel) dMH_hiddenSize_29 ?_
  refine mi_iadd hx hb dMH_hiddenSize_30 ?_
  refine mi_as (show nI (8 + 7) = nI 15 from rfl) ?_
  refine mi_imul hx hb dMH_hiddenSize_31 ?_
  refine mi_as (show nI (96 * 15) = nI 1440 from rfl) ?_
  refine mi_iadd hx hb dMH_hiddenSize_32 ?_
  refine mi_as (show nI (128 + 1440) = nI 1568 from rfl) ?_
  refine lv_sipush (v := nI 416) hx hb dMH_hiddenSize_33 (by decide) ?_
  refine va_gets hx hb (hE.2.1 23 _ rfl).1 hS hown (hts _ (wg_t kw_1706)) (fun _ h9 => h9) dMH_hiddenSize_36 ?_
  refine lv_iload_n hx hb dMH_hiddenSize_39 rfl (lv_at hl 0 rfl) ?_
  refine va_ti (v := .int (nI 8)) hx hb (hE.2.1 23 _ rfl).2 hS (vp_in_nI (by decide) (by decide)) (by decide +kernel) dMH_hiddenSize_40 ?_
  refine mi_imul hx hb dMH_hiddenSize_41 ?_
  refine mi_as (show nI (416 * 8) = nI 3328 from rfl) ?_
  refine mi_iadd hx hb dMH_hiddenSize_42 ?_
  refine mi_as (show nI (1568 + 3328) = nI 4896 from rfl) ?_
  exact mp_iret hx hb hr hlk hP hD hS ((nI 4896, s), pl) ⟨⟨hR.symm, rfl, hF, ⟨4896, rfl, by omega⟩, rfl, trivial⟩, hO⟩ [] rfl rfl rfl (by omega) (by omega) dMH_hiddenSize_43
def M_MH_markSize_0 (k : Nat) : Prop := (0 : Nat) = 1
noncomputable def F_MH_markSize_0 (s : Sto) : Int32 × Sto := (nI 2420, s)
set_option maxHeartbeats 8000000 in
set_option maxRecDepth 100000 in
theorem N_MH_markSize_0 (l : Launch) (g : Gd) (sz : Nat) (T : TyN) (s : Sto) (pl : va_W) (hO : okn g T s pl) (hU : inj T)   : Met l y_MH_markSize w_MH_markSize ({ frames := 0, cells := 0, slots := 0, locals := 0 } : Room) (va_Pc [.int (nI 0)] (pr (en g) g.1 vcl sz ([] ++ pl))) (va_Qi (fun (r : Int32) (u : (Int32 × Sto) × va_W) => (u.1 = F_MH_markSize_0 s ∧ r = u.1.1 ∧ frm (M_MH_markSize_0) s u.1.2 ∧ (∃ x : Nat, u.1.1 = nI x ∧ x < 2421) ∧ (u.1.1 = nI 2420) ∧ True) ∧ okn g T u.1.2 u.2) (po g.1 vcl (va_A ([] ++ pl) sz) (fun (u : (Int32 × Sto) × va_W) => [] ++ u.2)) (va_A ([] ++ pl) sz)) 0 0 (va_A ([] ++ pl) sz) := by
  refine mc_entry (cc := c_MH_markSize) (maxL := 1) (ret := (some .int)) (by decide) rfl (Nat.le_of_ble_eq_true rfl) ?_
  intro p e s0 m args below meth c ls F hr hlk hnm hsz hP hD hE hA hl
  obtain ⟨hx, hb, hml, hown, hts⟩ := id F
  have hK := hE.1
  generalize va_A ([] ++ pl) sz = A at hD hE hA ⊢
  have hS : va_S A s0.heap s0.heap [] := va_S.rf
  have hl : lv_has ls 1 [(0, .int (nI 0))] := hl
  have hR : F_MH_markSize_0 s = F_MH_markSize_0 s := rfl
  have hF : frm (M_MH_markSize_0) s s := frm_rf
  refine lv_bipush (v := nI 32) hx hb dMH_markSize_0 (by decide) ?_
  refine lv_bipush (v := nI 16) hx hb dMH_markSize_2 (by decide) ?_
  refine lv_iload_n hx hb dMH_markSize_4 rfl (lv_at hl 0 rfl) ?_
  refine mi_imul hx hb dMH_markSize_5 ?_
  refine mi_as (show nI (16 * 0) = nI 0 from rfl) ?_
  refine mi_iadd hx hb dMH_markSize_6 ?_
  refine mi_as (show nI (32 + 0) = nI 32 from rfl) ?_
  refine lv_bipush (v := nI 32) hx hb dMH_markSize_7 (by decide) ?_
  refine lv_iload_n hx hb dMH_markSize_9 rfl (lv_at hl 0 rfl) ?_
  refine lv_if_ne (tgt := 18) hx hb dMH_markSize_10 (by decide) (fun h21 => absurd h21 (by decide)) (fun h21 => ?_)
  refine lv_bipush (v := nI 18) hx hb dMH_markSize_13 (by decide) ?_
  refine lv_goto (tgt := 20) hx hb dMH_markSize_15 (by decide) ?_
  refine mi_imul hx hb dMH_markSize_20 ?_
  refine mi_as (show nI (32 * 18) = nI 576 from rfl) ?_
  refine va_gets hx hb (hE.2.1 24 _ rfl).1 hS hown (hts _ (wg_t kw_1708)) (fun _ h9 => h9) dMH_markSize_21 ?_
  refine lv_iload_n hx hb dMH_markSize_24 rfl (lv_at hl 0 rfl) ?_
  refine va_ti (v := .int (nI 4)) hx hb (hE.2.1 24 _ rfl).2 hS (vp_in_nI (by decide) (by decide)) (by decide +kernel) dMH_markSize_25 ?_
  refine mi_imul hx hb dMH_markSize_26 ?_
  refine mi_as (show nI (576 * 4) = nI 2304 from rfl) ?_
  refine mi_iadd hx hb dMH_markSize_27 ?_
  refine mi_as (show nI (32 + 2304) = nI 2336 from rfl) ?_
  refine va_gets hx hb (hE.2.1 27 _ rfl).1 hS hown (hts _ (wg_t kw_1912)) (fun _ h9 => h9) dMH_markSize_28 ?_
  refine lv_iload_n hx hb dMH_markSize_31 rfl (lv_at hl 0 rfl) ?_
  refine va_ti (v := .int (nI 80)) hx hb (hE.2.1 27 _ rfl).2 hS (vp_in_nI (by decide) (by decide)) (by decide +kernel) dMH_markSize_32 ?_
  refine mi_iadd hx hb dMH_markSize_33 ?_
  refine mi_as (show nI (2336 + 80) = nI 2416 from rfl) ?_
  refine va_gets hx hb (hE.2.1 23 _ rfl).1 hS hown (hts _ (wg_t kw_1706)) (fun _ h9 => h9) dMH_markSize_34 ?_
  refine lv_iload_n hx hb dMH_markSize_37 rfl (lv_at hl 0 rfl) ?_
  refine va_ti (v := .int (nI 4)) hx hb (hE.2.1 23 _ rfl).2 hS (vp_in_nI (by decide) (by decide)) (by decide +kernel) dMH_markSize_38 ?_
  refine mi_iadd hx hb dMH_markSize_39 ?_
  refine mi_as (show nI (2416 + 4) = nI 2420 from rfl) ?_
  exact mp_iret hx hb hr hlk hP hD hS ((nI 2420, s), pl) ⟨⟨hR.symm, rfl, hF, ⟨2420, rfl, by omega⟩, rfl, trivial⟩, hO⟩ [] rfl rfl rfl (by omega) (by omega) dMH_markSize_40
def M_MH_markSize_1 (k : Nat) : Prop := (0 : Nat) = 1
noncomputable def F_MH_markSize_1 (s : Sto) : Int32 × Sto := (nI 3309, s)
set_option maxHeartbeats 8000000 in
set_option maxRecDepth 100000 in
theorem N_MH_markSize_1 (l : Launch) (g : Gd) (sz : Nat) (T : TyN) (s : Sto) (pl : va_W) (hO : okn g T s pl) (hU : inj T)   : Met l y_MH_markSize w_MH_markSize ({ frames := 0, cells := 0, slots := 0, locals := 0 } : Room) (va_Pc [.int (nI 1)] (pr (en g) g.1 vcl sz ([] ++ pl))) (va_Qi (fun (r : Int32) (u : (Int32 × Sto) × va_W) => (u.1 = F_MH_markSize_1 s ∧ r = u.1.1 ∧ frm (M_MH_markSize_1) s u.1.2 ∧ (∃ x : Nat, u.1.1 = nI x ∧ x < 3310) ∧ (u.1.1 = nI 3309) ∧ True) ∧ okn g T u.1.2 u.2) (po g.1 vcl (va_A ([] ++ pl) sz) (fun (u : (Int32 × Sto) × va_W) => [] ++ u.2)) (va_A ([] ++ pl) sz)) 0 0 (va_A ([] ++ pl) sz) := by
  refine mc_entry (cc := c_MH_markSize) (maxL := 1) (ret := (some .int)) (by decide) rfl (Nat.le_of_ble_eq_true rfl) ?_
  intro p e s0 m args below meth c ls F hr hlk hnm hsz hP hD hE hA hl
  obtain ⟨hx, hb, hml, hown, hts⟩ := id F
  have hK := hE.1
  generalize va_A ([] ++ pl) sz = A at hD hE hA ⊢
  have hS : va_S A s0.heap s0.heap [] := va_S.rf
  have hl : lv_has ls 1 [(0, .int (nI 1))] := hl
  have hR : F_MH_markSize_1 s = F_MH_markSize_1 s := rfl
  have hF : frm (M_MH_markSize_1) s s := frm_rf
  refine lv_bipush (v := nI 32) hx hb dMH_markSize_0 (by decide) ?_
  refine lv_bipush (v := nI 16) hx hb dMH_markSize_2 (by decide) ?_
  refine lv_iload_n hx hb dMH_markSize_4 rfl (lv_at hl 0 rfl) ?_
  refine mi_imul hx hb dMH_markSize_5 ?_
  refine mi_as (show nI (16 * 1) = nI 16 from rfl) ?_
  refine mi_iadd hx hb dMH_markSize_6 ?_
  refine mi_as (show nI (32 + 16) = nI 48 from rfl) ?_
  refine lv_bipush (v := nI 32) hx hb dMH_markSize_7 (by decide) ?_
  refine lv_iload_n hx hb dMH_markSize_9 rfl (lv_at hl 0 rfl) ?_
  refine lv_if_ne (tgt := 18) hx hb dMH_markSize_10 (by decide) (fun h21 => ?_) (fun h21 => absurd h21 (by decide))
  refine lv_bipush (v := nI 20) hx hb dMH_markSize_18 (by decide) ?_
  refine mi_imul hx hb dMH_markSize_20 ?_
  refine mi_as (show nI (32 * 20) = nI 640 from rfl) ?_
  refine va_gets hx hb (hE.2.1 24 _ rfl).1 hS hown (hts _ (wg_t kw_1708)) (fun _ h9 => h9) dMH_markSize_21 ?_
  refine lv_iload_n hx hb dMH_markSize_24 rfl (lv_at hl 0 rfl) ?_
  refine va_ti (v := .int (nI 5)) hx hb (hE.2.1 24 _ rfl).2 hS (vp_in_nI (by decide) (by decide)) (by decide +kernel) dMH_markSize_25 ?_
  refine mi_imul hx hb dMH_markSize_26 ?_
  refine mi_as (show nI (640 * 5) = nI 3200 from rfl) ?_
  refine mi_iadd hx hb dMH_markSize_27 ?_
  refine mi_as (show nI (48 + 3200) = nI 3248 from rfl) ?_
  refine va_gets hx hb (hE.2.1 27 _ rfl).1 hS hown (hts _ (wg_t kw_1912)) (fun _ h9 => h9) dMH_markSize_28 ?_
  refine lv_iload_n hx hb dMH_markSize_31 rfl (lv_at hl 0 rfl) ?_
  refine va_ti (v := .int (nI 55)) hx hb (hE.2.1 27 _ rfl).2 hS (vp_in_nI (by decide) (by decide)) (by decide +kernel) dMH_markSize_32 ?_
  refine mi_iadd hx hb dMH_markSize_33 ?_
  refine mi_as (show nI (3248 + 55) = nI 3303 from rfl) ?_
  refine va_gets hx hb (hE.2.1 23 _ rfl).1 hS hown (hts _ (wg_t kw_1706)) (fun _ h9 => h9) dMH_markSize_34 ?_
  refine lv_iload_n hx hb dMH_markSize_37 rfl (lv_at hl 0 rfl) ?_
  refine va_ti (v := .int (nI 6)) hx hb (hE.2.1 23 _ rfl).2 hS (vp_in_nI (by decide) (by decide)) (by decide +kernel) dMH_markSize_38 ?_
  refine mi_iadd hx hb dMH_markSize_39 ?_
  refine mi_as (show nI (3303 + 6) = nI 3309 from rfl) ?_
  exact mp_iret hx hb hr hlk hP hD hS ((nI 3309, s), pl) ⟨⟨hR.symm, rfl, hF, ⟨3309, rfl, by omega⟩, rfl, trivial⟩, hO⟩ [] rfl rfl rfl (by omega) (by omega) dMH_markSize_40
def M_MH_markSize_2 (k : Nat) : Prop := (0 : Nat) = 1
noncomputable def F_MH_markSize_2 (s : Sto) : Int32 × Sto := (nI 4627, s)
set_option maxHeartbeats 8000000 in
set_option maxRecDepth 100000 in
theorem N_MH_markSize_2 (l : Launch) (g : Gd) (sz : Nat) (T : TyN) (s : Sto) (pl : va_W) (hO : okn g T s pl) (hU : inj T)   : Met l y_MH_markSize w_MH_markSize ({ frames := 0, cells := 0, slots := 0, locals := 0 } : Room) (va_Pc [.int (nI 2)] (pr (en g) g.1 vcl sz ([] ++ pl))) (va_Qi (fun (r : Int32) (u : (Int32 × Sto) × va_W) => (u.1 = F_MH_markSize_2 s ∧ r = u.1.1 ∧ frm (M_MH_markSize_2) s u.1.2 ∧ (∃ x : Nat, u.1.1 = nI x ∧ x < 4628) ∧ (u.1.1 = nI 4627) ∧ True) ∧ okn g T u.1.2 u.2) (po g.1 vcl (va_A ([] ++ pl) sz) (fun (u : (Int32 × Sto) × va_W) => [] ++ u.2)) (va_A ([] ++ pl) sz)) 0 0 (va_A ([] ++ pl) sz) := by
  refine mc_entry (cc := c_MH_markSize) (maxL := 1) (ret := (some .int)) (by decide) rfl (Nat.le_of_ble_eq_true rfl) ?_
  intro p e s0 m args below meth c ls F hr hlk hnm hsz hP hD hE hA hl
  obtain ⟨hx, hb, hml, hown, hts⟩ := id F
  have hK := hE.1
  generalize va_A ([] ++ pl) sz = A at hD hE hA ⊢
  have hS : va_S A s0.heap s0.heap [] := va_S.rf
  have hl : lv_has ls 1 [(0, .int (nI 2))] := hl
  have hR : F_MH_markSize_2 s = F_MH_markSize_2 s := rfl
  have hF : frm (M_MH_markSize_2) s s := frm_rf
  refine lv_bipush (v := nI 32) hx hb dMH_markSize_0 (by decide) ?_
  refine lv_bipush (v := nI 16) hx hb dMH_markSize_2 (by decide) ?_
  refine lv_iload_n hx hb dMH_markSize_4 rfl (lv_at hl 0 rfl) ?_
  refine mi_imul hx hb dMH_markSize_5 ?_
  refine mi_as (show nI (16 * 2) = nI 32 from rfl) ?_
  refine mi_iadd hx hb dMH_markSize_6 ?_
  refine mi_as (show nI (32 + 32) = nI 64 from rfl) ?_
  refine lv_bipush (v := nI 32) hx hb dMH_markSize_7 (by decide) ?_
  refine lv_iload_n hx hb dMH_markSize_9 rfl (lv_at hl 0 rfl) ?_
  refine lv_if_ne (tgt := 18) hx hb dMH_markSize_10 (by decide) (fun h21 => ?_) (fun h21 => absurd h21 (by decide))
  refine lv_bipush (v := nI 20) hx hb dMH_markSize_18 (by decide) ?_
  refine mi_imul hx hb dMH_markSize_20 ?_
  refine mi_as (show nI (32 * 20) = nI 640 from rfl) ?_
  refine va_gets hx hb (hE.2.1 24 _ rfl).1 hS hown (hts _ (wg_t kw_1708)) (fun _ h9 => h9) dMH_markSize_21 ?_
  refine lv_iload_n hx hb dMH_markSize_24 rfl (lv_at hl 0 rfl) ?_
  refine va_ti (v := .int (nI 7)) hx hb (hE.2.1 24 _ rfl).2 hS (vp_in_nI (by decide) (by decide)) (by decide +kernel) dMH_markSize_25 ?_
  refine mi_imul hx hb dMH_markSize_26 ?_
  refine mi_as (show nI (640 * 7) = nI 4480 from rfl) ?_
  refine mi_iadd hx hb dMH_markSize_27 ?_
  refine mi_as (show nI (64 + 4480) = nI 4544 from rfl) ?_
  refine va_gets hx hb (hE.2.1 27 _ rfl).1 hS hown (hts _ (wg_t kw_1912)) (fun _ h9 => h9) dMH_markSize_28 ?_
  refine lv_iload_n hx hb dMH_markSize_31 rfl (lv_at hl 0 rfl) ?_
  refine va_ti (v := .int (nI 75)) hx hb (hE.2.1 27 _ rfl).2 hS (vp_in_nI (by decide) (by decide)) (by decide +kernel) dMH_markSize_32 ?_
  refine mi_iadd hx hb dMH_markSize_33 ?_
  refine mi_as (show nI (4544 + 75) = nI 4619 from rfl) ?_
  refine va_gets hx hb (hE.2.1 23 _ rfl).1 hS hown (hts _ (wg_t kw_1706)) (fun _ h9 => h9) dMH_markSize_34 ?_
  refine lv_iload_n hx hb dMH_markSize_37 rfl (lv_at hl 0 rfl) ?_
  refine va_ti (v := .int (nI 8)) hx hb (hE.2.1 23 _ rfl).2 hS (vp_in_nI (by decide) (by decide)) (by decide +kernel) dMH_markSize_38 ?_
  refine mi_iadd hx hb dMH_markSize_39 ?_
  refine mi_as (show nI (4619 + 8) = nI 4627 from rfl) ?_
  exact mp_iret hx hb hr hlk hP hD hS ((nI 4627, s), pl) ⟨⟨hR.symm, rfl, hF, ⟨4627, rfl, by omega⟩, rfl, trivial⟩, hO⟩ [] rfl rfl rfl (by omega) (by omega) dMH_markSize_40
def M_MH_norm (k : Nat) : Prop := (0 : Nat) = 1
noncomputable def F_MH_norm (v : Int32) (s : Sto) : Int32 × Sto := if v ≤ (nI 4190208) then (v, s) else (((nI 8380417) - v), s)
set_option maxHeartbeats 8000000 in
set_option maxRecDepth 100000 in
theorem N_MH_norm (l : Launch) (g : Gd) (sz : Nat) (T : TyN) (s : Sto) (pl : va_W) (hO : okn g T s pl) (hU : inj T) (v : Int32)   : Met l y_MH_norm w_MH_norm ({ frames := 0, cells := 0, slots := 0, locals := 0 } : Room) (va_Pc [.int v] (pr (en g) g.1 vcl sz ([] ++ pl))) (va_Qi (fun (r : Int32) (u : (Int32 × Sto) × va_W) => (u.1 = F_MH_norm v s ∧ r = u.1.1 ∧ frm (M_MH_norm) s u.1.2 ∧ True) ∧ okn g T u.1.2 u.2) (po g.1 vcl (va_A ([] ++ pl) sz) (fun (u : (Int32 × Sto) × va_W) => [] ++ u.2)) (va_A ([] ++ pl) sz)) 0 0 (va_A ([] ++ pl) sz) := by
  refine mc_entry (cc := c_MH_norm) (maxL := 1) (ret := (some .int)) (by decide) rfl (Nat.le_of_ble_eq_true rfl) ?_
  intro p e s0 m args below meth c ls F hr hlk hnm hsz hP hD hE hA hl
  obtain ⟨hx, hb, hml, hown, hts⟩ := id F
  have hK := hE.1
  generalize va_A ([] ++ pl) sz = A at hD hE hA ⊢
  have hS : va_S A s0.heap s0.heap [] := va_S.rf
  have hl : lv_has ls 1 [(0, .int v)] := hl
  have hR : F_MH_norm v s = F_MH_norm v s := rfl
  have hF : frm (M_MH_norm) s s := frm_rf
  refine lv_iload_n hx hb dMH_norm_0 rfl (lv_at hl 0 rfl) ?_
  refine lv_ldc (v := 4190208) hx hb hown (hts _ (wg_t kw_1908)) dMH_norm_1 ?_
  refine mi_as (show (4190208 : Int32) = nI 4190208 by decide) ?_
  refine lv_icmp_le (tgt := 13) hx hb dMH_norm_3 (by decide) (fun h21 => ?_) (fun h21 => ?_)
  · replace hR := hR.trans (if_pos h21)
    refine lv_iload_n hx hb dMH_norm_13 rfl (lv_at hl 0 rfl) ?_
    exact mp_iret hx hb hr hlk hP hD hS ((v, s), pl) ⟨⟨hR.symm, rfl, hF, trivial⟩, hO⟩ [] rfl rfl rfl (by omega) (by omega) dMH_norm_14
  · replace hR := hR.trans (if_neg h21)
    refine lv_ldc (v := 8380417) hx hb hown (hts _ (wg_t kw_1429)) dMH_norm_6 ?_
    refine mi_as (show (8380417 : Int32) = nI 8380417 by decide) ?_
    refine lv_iload_n hx hb dMH_norm_8 rfl (lv_at hl 0 rfl) ?_
    refine lv_isub hx hb dMH_norm_9 ?_
    refine lv_goto (tgt := 14) hx hb dMH_norm_10 (by decide) ?_
    exact mp_iret hx hb hr hlk hP hD hS ((((nI 8380417) - v), s), pl) ⟨⟨hR.symm, rfl, hF, trivial⟩, hO⟩ [] rfl rfl rfl (by omega) (by omega) dMH_norm_14
def M_MH_minus (k : Nat) : Prop := (0 : Nat) = 1
noncomputable def F_MH_minus (v : Int32) (v2 : Int32) (s : Sto) : Int32 × Sto := if v2 ≤ v then ((v - v2), s) else (((v - v2) + (nI 8380417)), s)
set_option maxHeartbeats 8000000 in
set_option maxRecDepth 100000 in
theorem N_MH_minus (l : Launch) (g : Gd) (sz : Nat) (T : TyN) (s : Sto) (pl : va_W) (hO : okn g T s pl) (hU : inj T) (v : Int32) (v2 : Int32)   : Met l y_MH_minus w_MH_minus ({ frames := 0, cells := 0, slots := 0, locals := 0 } : Room) (va_Pc [.int v, .int v2] (pr (en g) g.1 vcl sz ([] ++ pl))) (va_Qi (fun (r : Int32) (u : (Int32 × Sto) × va_W) => (u.1 = F_MH_minus v v2 s ∧ r = u.1.1 ∧ frm (M_MH_minus) s u.1.2 ∧ True) ∧ okn g T u.1.2 u.2) (po g.1 vcl (va_A ([] ++ pl) sz) (fun (u : (Int32 × Sto) × va_W) => [] ++ u.2)) (va_A ([] ++ pl) sz)) 0 0 (va_A ([] ++ pl) sz) := by
  refine mc_entry (cc := c_MH_minus) (maxL := 2) (ret := (some .int)) (by decide) rfl (Nat.le_of_ble_eq_true rfl) ?_
  intro p e s0 m args below meth c ls F hr hlk hnm hsz hP hD hE hA hl
  obtain ⟨hx, hb, hml, hown, hts⟩ := id F
  have hK := hE.1
  generalize va_A ([] ++ pl) sz = A at hD hE hA ⊢
  have hS : va_S A s0.heap s0.heap [] := va_S.rf
  have hl : lv_has ls 2 [(0, .int v), (1, .int v2)] := hl
  have hR : F_MH_minus v v2 s = F_MH_minus v v2 s := rfl
  have hF : frm (M_MH_minus) s s := frm_rf
  refine lv_iload_n hx hb dMH_minus_0 rfl (lv_at hl 0 rfl) ?_
  refine lv_iload_n hx hb dMH_minus_1 rfl (lv_at hl 1 rfl) ?_
  refine lv_icmp_ge (tgt := 14) hx hb dMH_minus_2 (by decide) (fun h21 => ?_) (fun h21 => ?_)
  · replace hR := hR.trans (if_pos h21)
    refine lv_iload_n hx hb dMH_minus_14 rfl (lv_at hl 0 rfl) ?_
    refine lv_iload_n hx hb dMH_minus_15 rfl (lv_at hl 1 rfl) ?_
    refine lv_isub hx hb dMH_minus_16 ?_
    exact mp_iret hx hb hr hlk hP hD hS (((v - v2), s), pl) ⟨⟨hR.symm, rfl, hF, trivial⟩, hO⟩ [] rfl rfl rfl (by omega) (by omega) dMH_minus_17
  · replace hR := hR.trans (if_neg h21)
    refine lv_iload_n hx hb dMH_minus_5 rfl (lv_at hl 0 rfl) ?_
    refine lv_iload_n hx hb dMH_minus_6 rfl (lv_at hl 1 rfl) ?_
    refine lv_isub hx hb dMH_minus_7 ?_
    refine lv_ldc (v := 8380417) hx hb hown (hts _ (wg_t kw_1429)) dMH_minus_8 ?_
    refine mi_as (show (8380417 : Int32) = nI 8380417 by decide) ?_
    refine lv_iadd hx hb dMH_minus_10 ?_
    refine lv_goto (tgt := 17) hx hb dMH_minus_11 (by decide) ?_
    exact mp_iret hx hb hr hlk hP hD hS ((((v - v2) + (nI 8380417)), s), pl) ⟨⟨hR.symm, rfl, hF, trivial⟩, hO⟩ [] rfl rfl rfl (by omega) (by omega) dMH_minus_17
def M_MH_low_0 (k : Nat) : Prop := (0 : Nat) = 1
noncomputable def F_MH_low_0 (v : Int32) (s : Sto) : Int32 × Sto := bnd ((s.1 225 28).toNatClampNeg) fun z21 => bnd ((v - v / (nI 190464) * (nI 190464))) fun z22 => bnd ((s.1 225 28).toNatClampNeg) fun z23 => if z22 ≤ (nI 95232) then if (v - z22) = (nI 8380416) then ((z22 - (nI 1)), s) else (z22, s) else bnd ((s.1 225 28).toNatClampNeg) fun z24 => bnd ((z22 - (nI 190464))) fun z25 => if (v - z25) = (nI 8380416) then ((z25 - (nI 1)), s) else (z25, s)
set_option maxHeartbeats 8000000 in
set_option maxRecDepth 100000 in
theorem N_MH_low_0 (l : Launch) (g : Gd) (sz : Nat) (T : TyN) (s : Sto) (pl : va_W) (hO : okn g T s pl) (hU : inj T) (h0 : Nat) (v : Int32) (k_h0 : T h0 = some 225) (e_c0 : s.1 225 23 = nI 0) (e_c1 : s.1 225 24 = nI 4) (e_c2 : s.1 225 25 = nI 4) (e_c3 : s.1 225 26 = nI 2) (e_c4 : s.1 225 27 = nI 131072) (e_c5 : s.1 225 28 = nI 95232) (e_c6 : s.1 225 29 = nI 78) (e_c7 : s.1 225 30 = nI 32)  : Met l y_MH_low w_MH_low ({ frames := 0, cells := 0, slots := 0, locals := 0 } : Room) (va_Pc [.ref h0, .int v] (pr (en g) g.1 vcl sz ([] ++ pl))) (va_Qi (fun (r : Int32) (u : (Int32 × Sto) × va_W) => (u.1 = F_MH_low_0 v s ∧ r = u.1.1 ∧ frm (M_MH_low_0) s u.1.2 ∧ True) ∧ okn g T u.1.2 u.2) (po g.1 vcl (va_A ([] ++ pl) sz) (fun (u : (Int32 × Sto) × va_W) => [] ++ u.2)) (va_A ([] ++ pl) sz)) 0 0 (va_A ([] ++ pl) sz) := by
  refine mc_entry (cc := c_MH_low) (maxL := 3) (ret := (some .int)) (by decide) rfl (Nat.le_of_ble_eq_true rfl) ?_
  intro p e s0 m args below meth c ls F hr hlk hnm hsz hP hD hE hA hl
  obtain ⟨hx, hb, hml, hown, hts⟩ := id F
  have hK := hE.1
  generalize va_A ([] ++ pl) sz = A at hD hE hA ⊢
  have hS : va_S A s0.heap s0.heap [] := va_S.rf
  have hl : lv_has ls 3 [(0, .ref h0), (1, .int v)] := hl
  have hR : F_MH_low_0 v s = F_MH_low_0 v s := rfl
  have hF : frm (M_MH_low_0) s s := frm_rf
  refine lv_iload_n hx hb dMH_low_0 rfl (lv_at hl 1 rfl) ?_
  refine lv_iconst (v := nI 2) hx hb dMH_low_1 (by decide) ?_
  refine lv_aload_n hx hb dMH_low_2 rfl (lv_at hl 0 rfl) ?_
  refine nw_get (C := "LatticeKeysModel$Hands") (TT := T_MH) (N := 31) hx hb hts (wg_ft i_MH) hown hK hO k_h0 (kn := 225) (ci := 12) (fl := [(3, 172), (3, 181), (3, 226), (3, 291), (3, 299), (3, 308), (3, 317), (3, 326), (3, 334), (3, 342), (3, 350), (3, 359), (3, 368), (3, 369), (3, 370), (3, 371), (3, 372), (3, 373), (3, 374), (3, 375), (3, 376), (3, 377), (3, 378), (0, 0), (0, 0), (0, 0), (0, 0), (0, 0), (0, 0), (0, 0), (0, 0)]) rfl hP rfl 28 (by decide) (hts _ (wg_t kw_1460)) (fun _ h9 => h9) (cd := (0, 0)) rfl dMH_low_3 (fun v21 hv21 => ?_)
  obtain rfl := (show v21 = .int (s.1 225 28) from hv21)
  obtain ⟨z21, ez21, hz21, hz22⟩ := cl_of (b := 2147483648) e_c5 (by omega) (by decide)
  replace hR := bnd_step hR ez21
  refine mi_as hz21 ?_
  subst hz22
  refine mi_imul hx hb dMH_low_6 ?_
  refine mi_as (show nI (2 * 95232) = nI 190464 from rfl) ?_
  refine lv_irem hx hb dMH_low_7 (nI_ne0 (by omega) (by omega)) ?_
  refine mi_eqv (fun z22 ez22 => ?_)
  replace hR := bnd_step hR ez22
  refine lv_istore_n (lv' := [(2, .int z22), (0, .ref h0), (1, .int v)]) hx hb dMH_low_8 rfl hl (by decide) rfl (fun ls hl => ?_)
  refine lv_iload_n hx hb dMH_low_9 rfl (lv_at hl 0 rfl) ?_
  refine lv_aload_n hx hb dMH_low_10 rfl (lv_at hl 1 rfl) ?_
  refine nw_get (C := "LatticeKeysModel$Hands") (TT := T_MH) (N := 31) hx hb hts (wg_ft i_MH) hown hK hO k_h0 (kn := 225) (ci := 12) (fl := [(3, 172), (3, 181), (3, 226), (3, 291), (3, 299), (3, 308), (3, 317), (3, 326), (3, 334), (3, 342), (3, 350), (3, 359), (3, 368), (3, 369), (3, 370), (3, 371), (3, 372), (3, 373), (3, 374), (3, 375), (3, 376), (3, 377), (3, 378), (0, 0), (0, 0), (0, 0), (0, 0), (0, 0), (0, 0), (0, 0), (0, 0)]) rfl hP rfl 28 (by decide) (hts _ (wg_t kw_1460)) (fun _ h9 => h9) (cd := (0, 0)) rfl dMH_low_11 (fun v22 hv22 => ?_)
  obtain rfl := (show v22 = .int (s.1 225 28) from hv22)
  obtain ⟨z23, ez23, hz23, hz24⟩ := cl_of (b := 2147483648) e_c5 (by omega) (by decide)
  replace hR := bnd_step hR ez23
  refine mi_as hz23 ?_
  subst hz24
  refine lv_icmp_le (tgt := 26) hx hb dMH_low_14 (by decide) (fun h21 => ?_) (fun h21 => ?_)
  · replace hR := hR.trans (if_pos h21)
    refine lv_iload_n hx hb dMH_low_26 rfl (lv_at hl 2 rfl) ?_
    refine lv_iload_n hx hb dMH_low_27 rfl (lv_at hl 0 rfl) ?_
    refine lv_isub hx hb dMH_low_28 ?_
    refine lv_ldc (v := 8380416) hx hb hown (hts _ (wg_t kw_1884)) dMH_low_29 ?_
    refine mi_as (show (8380416 : Int32) = nI 8380416 by decide) ?_
    refine lv_icmp_ne (tgt := 40) hx hb dMH_low_31 (by decide) (fun h22 => ?_) (fun h22 => ?_)
    · replace hR := hR.trans (if_neg h22)
      refine lv_iload_n hx hb dMH_low_40 rfl (lv_at hl 0 rfl) ?_
      exact mp_iret hx hb hr hlk hP hD hS ((z22, s), pl) ⟨⟨hR.symm, rfl, hF, trivial⟩, hO⟩ [] rfl rfl rfl (by omega) (by omega) dMH_low_41
    · replace hR := hR.trans (if_pos h22)
      refine lv_iload_n hx hb dMH_low_34 rfl (lv_at hl 0 rfl) ?_
      refine lv_iconst (v := nI 1) hx hb dMH_low_35 (by decide) ?_
      refine lv_isub hx hb dMH_low_36 ?_
      refine lv_goto (tgt := 41) hx hb dMH_low_37 (by decide) ?_
      exact mp_iret hx hb hr hlk hP hD hS (((z22 - (nI 1)), s), pl) ⟨⟨hR.symm, rfl, hF, trivial⟩, hO⟩ [] rfl rfl rfl (by omega) (by omega) dMH_low_41
  · replace hR := hR.trans (if_neg h21)
    refine lv_iload_n hx hb dMH_low_17 rfl (lv_at hl 0 rfl) ?_
    refine lv_iconst (v := nI 2) hx hb dMH_low_18 (by decide) ?_
    refine lv_aload_n hx hb dMH_low_19 rfl (lv_at hl 1 rfl) ?_
    refine nw_get (C := "LatticeKeysModel$Hands") (TT := T_MH) (N := 31) hx hb hts (wg_ft i_MH) hown hK hO k_h0 (kn := 225) (ci := 12) (fl := [(3, 172), (3, 181), (3, 226), (3, 291), (3, 299), (3, 308), (3, 317), (3, 326), (3, 334), (3, 342), (3, 350), (3, 359), (3, 368), (3, 369), (3, 370), (3, 371), (3, 372), (3, 373), (3, 374), (3, 375), (3, 376), (3, 377), (3, 378), (0, 0), (0, 0), (0, 0), (0, 0), (0, 0), (0, 0), (0, 0), (0, 0)]) rfl hP rfl 28 (by decide) (hts _ (wg_t kw_1460)) (fun _ h9 => h9) (cd := (0, 0)) rfl dMH_low_20 (fun v23 hv23 => ?_)
    obtain rfl := (show v23 = .int (s.1 225 28) from hv23)
    obtain ⟨z24, ez24, hz25, hz26⟩ := cl_of (b := 2147483648) e_c5 (by omega) (by decide)
    replace hR := bnd_step hR ez24
    refine mi_as hz25 ?_
    subst hz26
    refine mi_imul hx hb dMH_low_23 ?_
    refine mi_as (show nI (2 * 95232) = nI 190464 from rfl) ?_
    refine lv_isub hx hb dMH_low_24 ?_
    refine mi_eqv (fun z25 ez25 => ?_)
    replace hR := bnd_step hR ez25
    refine lv_istore_n (lv' := [(2, .int z25), (0, .ref h0), (1, .int v)]) hx hb dMH_low_25 rfl hl (by decide) rfl (fun ls hl => ?_)
    refine lv_iload_n hx hb dMH_low_26 rfl (lv_at hl 2 rfl) ?_
    refine lv_iload_n hx hb dMH_low_27 rfl (lv_at hl 0 rfl) ?_
    refine lv_isub hx hb dMH_low_28 ?_
    refine lv_ldc (v := 8380416) hx hb hown (hts _ (wg_t kw_1884)) dMH_low_29 ?_
    refine mi_as (show (8380416 : Int32) = nI 8380416 by decide) ?_
    refine lv_icmp_ne (tgt := 40) hx hb dMH_low_31 (by decide) (fun h23 => ?_) (fun h23 => ?_)
    · replace hR := hR.trans (if_neg h23)
      refine lv_iload_n hx hb dMH_low_40 rfl (lv_at hl 0 rfl) ?_
      exact mp_iret hx hb hr hlk hP hD hS ((z25, s), pl) ⟨⟨hR.symm, rfl, hF, trivial⟩, hO⟩ [] rfl rfl rfl (by omega) (by omega) dMH_low_41
    · replace hR := hR.trans (if_pos h23)
      refine lv_iload_n hx hb dMH_low_34 rfl (lv_at hl 0 rfl) ?_
      refine lv_iconst (v := nI 1) hx hb dMH_low_35 (by decide) ?_
      refine lv_isub hx hb dMH_low_36 ?_
      refine lv_goto (tgt := 41) hx hb dMH_low_37 (by decide) ?_
      exact mp_iret hx hb hr hlk hP hD hS (((z25 - (nI 1)), s), pl) ⟨⟨hR.symm, rfl, hF, trivial⟩, hO⟩ [] rfl rfl rfl (by omega) (by omega) dMH_low_41
def M_MH_low_1 (k : Nat) : Prop := (0 : Nat) = 1
noncomputable def F_MH_low_1 (v : Int32) (s : Sto) : Int32 × Sto := bnd ((s.1 225 28).toNatClampNeg) fun z21 => bnd ((v - v / (nI 523776) * (nI 523776))) fun z22 => bnd ((s.1 225 28).toNatClampNeg) fun z23 => if z22 ≤ (nI 261888) then if (v - z22) = (nI 8380416) then ((z22 - (nI 1)), s) else (z22, s) else bnd ((s.1 225 28).toNatClampNeg) fun z24 => bnd ((z22 - (nI 523776))) fun z25 => if (v - z25) = (nI 8380416) then ((z25 - (nI 1)), s) else (z25, s)
set_option maxHeartbeats 8000000 in
set_option maxRecDepth 100000 in
theorem N_MH_low_1 (l : Launch) (g : Gd) (sz : Nat) (T : TyN) (s : Sto) (pl : va_W) (hO : okn g T s pl) (hU : inj T) (h0 : Nat) (v : Int32) (k_h0 : T h0 = some 225) (e_c0 : s.1 225 23 = nI 1) (e_c1 : s.1 225 24 = nI 6) (e_c2 : s.1 225 25 = nI 5) (e_c3 : s.1 225 26 = nI 4) (e_c4 : s.1 225 27 = nI 524288) (e_c5 : s.1 225 28 = nI 261888) (e_c6 : s.1 225 29 = nI 196) (e_c7 : s.1 225 30 = nI 48)  : Met l y_MH_low w_MH_low ({ frames := 0, cells := 0, slots := 0, locals := 0 } : Room) (va_Pc [.ref h0, .int v] (pr (en g) g.1 vcl sz ([] ++ pl))) (va_Qi (fun (r : Int32) (u : (Int32 × Sto) × va_W) => (u.1 = F_MH_low_1 v s ∧ r = u.1.1 ∧ frm (M_MH_low_1) s u.1.2 ∧ True) ∧ okn g T u.1.2 u.2) (po g.1 vcl (va_A ([] ++ pl) sz) (fun (u : (Int32 × Sto) × va_W) => [] ++ u.2)) (va_A ([] ++ pl) sz)) 0 0 (va_A ([] ++ pl) sz) := by
  refine mc_entry (cc := c_MH_low) (maxL := 3) (ret := (some .int)) (by decide) rfl (Nat.le_of_ble_eq_true rfl) ?_
  intro p e s0 m args below meth c ls F hr hlk hnm hsz hP hD hE hA hl
  obtain ⟨hx, hb, hml, hown, hts⟩ := id F
  have hK := hE.1
  generalize va_A ([] ++ pl) sz = A at hD hE hA ⊢
  have hS : va_S A s0.heap s0.heap [] := va_S.rf
  have hl : lv_has ls 3 [(0, .ref h0), (1, .int v)] := hl
  have hR : F_MH_low_1 v s = F_MH_low_1 v s := rfl
  have hF : frm (M_MH_low_1) s s := frm_rf
  refine lv_iload_n hx hb dMH_low_0 rfl (lv_at hl 1 rfl) ?_
  refine lv_iconst (v := nI 2) hx hb dMH_low_1 (by decide) ?_
  refine lv_aload_n hx hb dMH_low_2 rfl (lv_at hl 0 rfl) ?_
  refine nw_get (C := "LatticeKeysModel$Hands") (TT := T_MH) (N := 31) hx hb hts (wg_ft i_MH) hown hK hO k_h0 (kn := 225) (ci := 12) (fl := [(3, 172), (3, 181), (3, 226), (3, 291), (3, 299), (3, 308), (3, 317), (3, 326), (3, 334), (3, 342), (3, 350), (3, 359), (3, 368), (3, 369), (3, 370), (3, 371), (3, 372), (3, 373), (3, 374), (3, 375), (3, 376), (3, 377), (3, 378), (0, 0), (0, 0), (0, 0), (0, 0), (0, 0), (0, 0), (0, 0), (0, 0)]) rfl hP rfl 28 (by decide) (hts _ (wg_t kw_1460)) (fun _ h9 => h9) (cd := (0, 0)) rfl dMH_low_3 (fun v21 hv21 => ?_)
  obtain rfl := (show v21 = .int (s.1 225 28) from hv21)
  obtain ⟨z21, ez21, hz21, hz22⟩ := cl_of (b := 2147483648) e_c5 (by omega) (by decide)
  replace hR := bnd_step hR ez21
  refine mi_as hz21 ?_
  subst hz22
  refine mi_imul hx hb dMH_low_6 ?_
  refine mi_as (show nI (2 * 261888) = nI 523776 from rfl) ?_
  refine lv_irem hx hb dMH_low_7 (nI_ne0 (by omega) (by omega)) ?_
  refine mi_eqv (fun z22 ez22 => ?_)
  replace hR := bnd_step hR ez22
  refine lv_istore_n (lv' := [(2, .int z22), (0, .ref h0), (1, .int v)]) hx hb dMH_low_8 rfl hl (by decide) rfl (fun ls hl => ?_)
  refine lv_iload_n hx hb dMH_low_9 rfl (lv_at hl 0 rfl) ?_
  refine lv_aload_n hx hb dMH_low_10 rfl (lv_at hl 1 rfl) ?_
  refine nw_get (C := "LatticeKeysModel$Hands") (TT := T_MH) (N := 31) hx hb hts (wg_ft i_MH) hown hK hO k_h0 (kn := 225) (ci := 12) (fl := [(3, 172), (3, 181), (3, 226), (3, 291), (3, 299), (3, 308), (3, 317), (3, 326), (3, 334), (3, 342), (3, 350), (3, 359), (3, 368), (3, 369), (3, 370), (3, 371), (3, 372), (3, 373), (3, 374), (3, 375), (3, 376), (3, 377), (3, 378), (0, 0), (0, 0), (0, 0), (0, 0), (0, 0), (0, 0), (0, 0), (0, 0)]) rfl hP rfl 28 (by decide) (hts _ (wg_t kw_1460)) (fun _ h9 => h9) (cd := (0, 0)) rfl dMH_low_11 (fun v22 hv22 => ?_)
  obtain rfl := (show v22 = .int (s.1 225 28) from hv22)
  obtain ⟨z23, ez23, hz23, hz24⟩ := cl_of (b := 2147483648) e_c5 (by omega) (by decide)
  replace hR := bnd_step hR ez23
  refine mi_as hz23 ?_
  subst hz24
  refine lv_icmp_le (tgt := 26) hx hb dMH_low_14 (by decide) (fun h21 => ?_) (fun h21 => ?_)
  · replace hR := hR.trans (if_pos h21)
    refine lv_iload_n hx hb dMH_low_26 rfl (lv_at hl 2 rfl) ?_
    refine lv_iload_n hx hb dMH_low_27 rfl (lv_at hl 0 rfl) ?_
    refine lv_isub hx hb dMH_low_28 ?_
    refine lv_ldc (v := 8380416) hx hb hown (hts _ (wg_t kw_1884)) dMH_low_29 ?_
    refine mi_as (show (8380416 : Int32) = nI 8380416 by decide) ?_
    refine lv_icmp_ne (tgt := 40) hx hb dMH_low_31 (by decide) (fun h22 => ?_) (fun h22 => ?_)
    · replace hR := hR.trans (if_neg h22)
      refine lv_iload_n hx hb dMH_low_40 rfl (lv_at hl 0 rfl) ?_
      exact mp_iret hx hb hr hlk hP hD hS ((z22, s), pl) ⟨⟨hR.symm, rfl, hF, trivial⟩, hO⟩ [] rfl rfl rfl (by omega) (by omega) dMH_low_41
    · replace hR := hR.trans (if_pos h22)
      refine lv_iload_n hx hb dMH_low_34 rfl (lv_at hl 0 rfl) ?_
      refine lv_iconst (v := nI 1) hx hb dMH_low_35 (by decide) ?_
      refine lv_isub hx hb dMH_low_36 ?_
      refine lv_goto (tgt := 41) hx hb dMH_low_37 (by decide) ?_
      exact mp_iret hx hb hr hlk hP hD hS (((z22 - (nI 1)), s), pl) ⟨⟨hR.symm, rfl, hF, trivial⟩, hO⟩ [] rfl rfl rfl (by omega) (by omega) dMH_low_41
  · replace hR := hR.trans (if_neg h21)
    refine lv_iload_n hx hb dMH_low_17 rfl (lv_at hl 0 rfl) ?_
    refine lv_iconst (v := nI 2) hx hb dMH_low_18 (by decide) ?_
    refine lv_aload_n hx hb dMH_low_19 rfl (lv_at hl 1 rfl) ?_
    refine nw_get (C := "LatticeKeysModel$Hands") (TT := T_MH) (N := 31) hx hb hts (wg_ft i_MH) hown hK hO k_h0 (kn := 225) (ci := 12) (fl := [(3, 172), (3, 181), (3, 226), (3, 291), (3, 299), (3, 308), (3, 317), (3, 326), (3, 334), (3, 342), (3, 350), (3, 359), (3, 368), (3, 369), (3, 370), (3, 371), (3, 372), (3, 373), (3, 374), (3, 375), (3, 376), (3, 377), (3, 378), (0, 0), (0, 0), (0, 0), (0, 0), (0, 0), (0, 0), (0, 0), (0, 0)]) rfl hP rfl 28 (by decide) (hts _ (wg_t kw_1460)) (fun _ h9 => h9) (cd := (0, 0)) rfl dMH_low_20 (fun v23 hv23 => ?_)
    obtain rfl := (show v23 = .int (s.1 225 28) from hv23)
    obtain ⟨z24, ez24, hz25, hz26⟩ := cl_of (b := 2147483648) e_c5 (by omega) (by decide)
    replace hR := bnd_step hR ez24
    refine mi_as hz25 ?_
    subst hz26
    refine mi_imul hx hb dMH_low_23 ?_
    refine mi_as (show nI (2 * 261888) = nI 523776 from rfl) ?_
    refine lv_isub hx hb dMH_low_24 ?_
    refine mi_eqv (fun z25 ez25 => ?_)
    replace hR := bnd_step hR ez25
    refine lv_istore_n (lv' := [(2, .int z25), (0, .ref h0), (1, .int v)]) hx hb dMH_low_25 rfl hl (by decide) rfl (fun ls hl => ?_)
    refine lv_iload_n hx hb dMH_low_26 rfl (lv_at hl 2 rfl) ?_
    refine lv_iload_n hx hb dMH_low_27 rfl (lv_at hl 0 rfl) ?_
    refine lv_isub hx hb dMH_low_28 ?_
    refine lv_ldc (v := 8380416) hx hb hown (hts _ (wg_t kw_1884)) dMH_low_29 ?_
    refine mi_as (show (8380416 : Int32) = nI 8380416 by decide) ?_
    refine lv_icmp_ne (tgt := 40) hx hb dMH_low_31 (by decide) (fun h23 => ?_) (fun h23 => ?_)
    · replace hR := hR.trans (if_neg h23)
      refine lv_iload_n hx hb dMH_low_40 rfl (lv_at hl 0 rfl) ?_
      exact mp_iret hx hb hr hlk hP hD hS ((z25, s), pl) ⟨⟨hR.symm, rfl, hF, trivial⟩, hO⟩ [] rfl rfl rfl (by omega) (by omega) dMH_low_41
    · replace hR := hR.trans (if_pos h23)
      refine lv_iload_n hx hb dMH_low_34 rfl (lv_at hl 0 rfl) ?_
      refine lv_iconst (v := nI 1) hx hb dMH_low_35 (by decide) ?_
      refine lv_isub hx hb dMH_low_36 ?_
      refine lv_goto (tgt := 41) hx hb dMH_low_37 (by decide) ?_
      exact mp_iret hx hb hr hlk hP hD hS (((z25 - (nI 1)), s), pl) ⟨⟨hR.symm, rfl, hF, trivial⟩, hO⟩ [] rfl rfl rfl (by omega) (by omega) dMH_low_41
def M_MH_low_2 (k : Nat) : Prop := (0 : Nat) = 1
noncomputable def F_MH_low_2 (v : Int32) (s : Sto) : Int32 × Sto := bnd ((s.1 225 28).toNatClampNeg) fun z21 => bnd ((v - v / (nI 523776) * (nI 523776))) fun z22 => bnd ((s.1 225 28).toNatClampNeg) fun z23 => if z22 ≤ (nI 261888) then if (v - z22) = (nI 8380416) then ((z22 - (nI 1)), s) else (z22, s) else bnd ((s.1 225 28).toNatClampNeg) fun z24 => bnd ((z22 - (nI 523776))) fun z25 => if (v - z25) = (nI 8380416) then ((z25 - (nI 1)), s) else (z25, s)
set_option maxHeartbeats 8000000 in
set_option maxRecDepth 100000 in
theorem N_MH_low_2 (l : Launch) (g : Gd) (sz : Nat) (T : TyN) (s : Sto) (pl : va_W) (hO : okn g T s pl) (hU : inj T) (h0 : Nat) (v : Int32) (k_h0 : T h0 = some 225) (e_c0 : s.1 225 23 = nI 2) (e_c1 : s.1 225 24 = nI 8) (e_c2 : s.1 225 25 = nI 7) (e_c3 : s.1 225 26 = nI 2) (e_c4 : s.1 225 27 = nI 524288) (e_c5 : s.1 225 28 = nI 261888) (e_c6 : s.1 225 29 = nI 120) (e_c7 : s.1 225 30 = nI 64)  : Met l y_MH_low w_MH_low ({ frames := 0, cells := 0, slots := 0, locals := 0 } : Room) (va_Pc [.ref h0, .int v] (pr (en g) g.1 vcl sz ([] ++ pl))) (va_Qi (fun (r : Int32) (u : (Int32 × Sto) × va_W) => (u.1 = F_MH_low_2 v s ∧ r = u.1.1 ∧ frm (M_MH_low_2) s u.1.2 ∧ True) ∧ okn g T u.1.2 u.2) (po g.1 vcl (va_A ([] ++ pl) sz) (fun (u : (Int32 × Sto) × va_W) => [] ++ u.2)) (va_A ([] ++ pl) sz)) 0 0 (va_A ([] ++ pl) sz) := by
  refine mc_entry (cc := c_MH_low) (maxL := 3) (ret := (some .int)) (by decide) rfl (Nat.le_of_ble_eq_true rfl) ?_
  intro p e s0 m args below meth c ls F hr hlk hnm hsz hP hD hE hA hl
  obtain ⟨hx, hb, hml, hown, hts⟩ := id F
  have hK := hE.1
  generalize va_A ([] ++ pl) sz = A at hD hE hA ⊢
  have hS : va_S A s0.heap s0.heap [] := va_S.rf
  have hl : lv_has ls 3 [(0, .ref h0), (1, .int v)] := hl
  have hR : F_MH_low_2 v s = F_MH_low_2 v s := rfl
  have hF : frm (M_MH_low_2) s s := frm_rf
  refine lv_iload_n hx hb dMH_low_0 rfl (lv_at hl 1 rfl) ?_
  refine lv_iconst (v := nI 2) hx hb dMH_low_1 (by decide) ?_
  refine lv_aload_n hx hb dMH_low_2 rfl (lv_at hl 0 rfl) ?_
  refine nw_get (C := "LatticeKeysModel$Hands") (TT := T_MH) (N := 31) hx hb hts (wg_ft i_MH) hown hK hO k_h0 (kn := 225) (ci := 12) (fl := [(3, 172), (3, 181), (3, 226), (3, 291), (3, 299), (3, 308), (3, 317), (3, 326), (3, 334), (3, 342), (3, 350), (3, 359), (3, 368), (3, 369), (3, 370), (3, 371), (3, 372), (3, 373), (3, 374), (3, 375), (3, 376), (3, 377), (3, 378), (0, 0), (0, 0), (0, 0), (0, 0), (0, 0), (0, 0), (0, 0), (0, 0)]) rfl hP rfl 28 (by decide) (hts _ (wg_t kw_1460)) (fun _ h9 => h9) (cd := (0, 0)) rfl dMH_low_3 (fun v21 hv21 => ?_)
  obtain rfl := (show v21 = .int (s.1 225 28) from hv21)
  obtain ⟨z21, ez21, hz21, hz22⟩ := cl_of (b := 2147483648) e_c5 (by omega) (by decide)
  replace hR := bnd_step hR ez21
  refine mi_as hz21 ?_
  subst hz22
  refine mi_imul hx hb dMH_low_6 ?_
  refine mi_as (show nI (2 * 261888) = nI 523776 from rfl) ?_
  refine lv_irem hx hb dMH_low_7 (nI_ne0 (by omega) (by omega)) ?_
  refine mi_eqv (fun z22 ez22 => ?_)
  replace hR := bnd_step hR ez22
  refine lv_istore_n (lv' := [(2, .int z22), (0, .ref h0), (1, .int v)]) hx hb dMH_low_8 rfl hl (by decide) rfl (fun ls hl => ?_)
  refine lv_iload_n hx hb dMH_low_9 rfl (lv_at hl 0 rfl) ?_
  refine lv_aload_n hx hb dMH_low_10 rfl (lv_at hl 1 rfl) ?_
  refine nw_get (C := "LatticeKeysModel$Hands") (TT := T_MH) (N := 31) hx hb hts (wg_ft i_MH) hown hK hO k_h0 (kn := 225) (ci := 12) (fl := [(3, 172), (3, 181), (3, 226), (3, 291), (3, 299), (3, 308), (3, 317), (3, 326), (3, 334), (3, 342), (3, 350), (3, 359), (3, 368), (3, 369), (3, 370), (3, 371), (3, 372), (3, 373), (3, 374), (3, 375), (3, 376), (3, 377), (3, 378), (0, 0), (0, 0), (0, 0), (0, 0), (0, 0), (0, 0), (0, 0), (0, 0)]) rfl hP rfl 28 (by decide) (hts _ (wg_t kw_1460)) (fun _ h9 => h9) (cd := (0, 0)) rfl dMH_low_11 (fun v22 hv22 => ?_)
  obtain rfl := (show v22 = .int (s.1 225 28) from hv22)
  obtain ⟨z23, ez23, hz23, hz24⟩ := cl_of (b := 2147483648) e_c5 (by omega) (by decide)
  replace hR := bnd_step hR ez23
  refine mi_as hz23 ?_
  subst hz24
  refine lv_icmp_le (tgt := 26) hx hb dMH_low_14 (by decide) (fun h21 => ?_) (fun h21 => ?_)
  · replace hR := hR.trans (if_pos h21)
    refine lv_iload_n hx hb dMH_low_26 rfl (lv_at hl 2 rfl) ?_
    refine lv_iload_n hx hb dMH_low_27 rfl (lv_at hl 0 rfl) ?_
    refine lv_isub hx hb dMH_low_28 ?_
    refine lv_ldc (v := 8380416) hx hb hown (hts _ (wg_t kw_1884)) dMH_low_29 ?_
    refine mi_as (show (8380416 : Int32) = nI 8380416 by decide) ?_
    refine lv_icmp_ne (tgt := 40) hx hb dMH_low_31 (by decide) (fun h22 => ?_) (fun h22 => ?_)
    · replace hR := hR.trans (if_neg h22)
      refine lv_iload_n hx hb dMH_low_40 rfl (lv_at hl 0 rfl) ?_
      exact mp_iret hx hb hr hlk hP hD hS ((z22, s), pl) ⟨⟨hR.symm, rfl, hF, trivial⟩, hO⟩ [] rfl rfl rfl (by omega) (by omega) dMH_low_41
    · replace hR := hR.trans (if_pos h22)
      refine lv_iload_n hx hb dMH_low_34 rfl (lv_at hl 0 rfl) ?_
      refine lv_iconst (v := nI 1) hx hb dMH_low_35 (by decide) ?_
      refine lv_isub hx hb dMH_low_36 ?_
      refine lv_goto (tgt := 41) hx hb dMH_low_37 (by decide) ?_
      exact mp_iret hx hb hr hlk hP hD hS (((z22 - (nI 1)), s), pl) ⟨⟨hR.symm, rfl, hF, trivial⟩, hO⟩ [] rfl rfl rfl (by omega) (by omega) dMH_low_41
  · replace hR := hR.trans (if_neg h21)
    refine lv_iload_n hx hb dMH_low_17 rfl (lv_at hl 0 rfl) ?_
    refine lv_iconst (v := nI 2) hx hb dMH_low_18 (by decide) ?_
    refine lv_aload_n hx hb dMH_low_19 rfl (lv_at hl 1 rfl) ?_
    refine nw_get (C := "LatticeKeysModel$Hands") (TT := T_MH) (N := 31) hx hb hts (wg_ft i_MH) hown hK hO k_h0 (kn := 225) (ci := 12) (fl := [(3, 172), (3, 181), (3, 226), (3, 291), (3, 299), (3, 308), (3, 317), (3, 326), (3, 334), (3, 342), (3, 350), (3, 359), (3, 368), (3, 369), (3, 370), (3, 371), (3, 372), (3, 373), (3, 374), (3, 375), (3, 376), (3, 377), (3, 378), (0, 0), (0, 0), (0, 0), (0, 0), (0, 0), (0, 0), (0, 0), (0, 0)]) rfl hP rfl 28 (by decide) (hts _ (wg_t kw_1460)) (fun _ h9 => h9) (cd := (0, 0)) rfl dMH_low_20 (fun v23 hv23 => ?_)
    obtain rfl := (show v23 = .int (s.1 225 28) from hv23)
    obtain ⟨z24, ez24, hz25, hz26⟩ := cl_of (b := 2147483648) e_c5 (by omega) (by decide)
    replace hR := bnd_step hR ez24
    refine mi_as hz25 ?_
    subst hz26
    refine mi_imul hx hb dMH_low_23 ?_
    refine mi_as (show nI (2 * 261888) = nI 523776 from rfl) ?_
    refine lv_isub hx hb dMH_low_24 ?_
    refine mi_eqv (fun z25 ez25 => ?_)
    replace hR := bnd_step hR ez25
    refine lv_istore_n (lv' := [(2, .int z25), (0, .ref h0), (1, .int v)]) hx hb dMH_low_25 rfl hl (by decide) rfl (fun ls hl => ?_)
    refine lv_iload_n hx hb dMH_low_26 rfl (lv_at hl 2 rfl) ?_
    refine lv_iload_n hx hb dMH_low_27 rfl (lv_at hl 0 rfl) ?_
    refine lv_isub hx hb dMH_low_28 ?_
    refine lv_ldc (v := 8380416) hx hb hown (hts _ (wg_t kw_1884)) dMH_low_29 ?_
    refine mi_as (show (8380416 : Int32) = nI 8380416 by decide) ?_
    refine lv_icmp_ne (tgt := 40) hx hb dMH_low_31 (by decide) (fun h23 => ?_) (fun h23 => ?_)
    · replace hR := hR.trans (if_neg h23)
      refine lv_iload_n hx hb dMH_low_40 rfl (lv_at hl 0 rfl) ?_
      exact mp_iret hx hb hr hlk hP hD hS ((z25, s), pl) ⟨⟨hR.symm, rfl, hF, trivial⟩, hO⟩ [] rfl rfl rfl (by omega) (by omega) dMH_low_41
    · replace hR := hR.trans (if_pos h23)
      refine lv_iload_n hx hb dMH_low_34 rfl (lv_at hl 0 rfl) ?_
      refine lv_iconst (v := nI 1) hx hb dMH_low_35 (by decide) ?_
      refine lv_isub hx hb dMH_low_36 ?_
      refine lv_goto (tgt := 41) hx hb dMH_low_37 (by decide) ?_
      exact mp_iret hx hb hr hlk hP hD hS (((z25 - (nI 1)), s), pl) ⟨⟨hR.symm, rfl, hF, trivial⟩, hO⟩ [] rfl rfl rfl (by omega) (by omega) dMH_low_41
def M_MH_high_0 (k : Nat) : Prop := (0 : Nat) = 1
noncomputable def F_MH_high_0 (v : Int32) (s : Sto) : Int32 × Sto := bnd ((s.1 225 28).toNatClampNeg) fun z21 => bnd ((v - v / (nI 190464) * (nI 190464))) fun z22 => bnd ((s.1 225 28).toNatClampNeg) fun z23 => if z22 ≤ (nI 95232) then if (v - z22) = (nI 8380416) then (nI 0, s) else bnd ((s.1 225 28).toNatClampNeg) fun z24 => (((v - z22) / (nI 190464)), s) else bnd ((s.1 225 28).toNatClampNeg) fun z25 => bnd ((z22 - (nI 190464))) fun z26 => if (v - z26) = (nI 8380416) then (nI 0, s) else bnd ((s.1 225 28).toNatClampNeg) fun z27 => (((v - z26) / (nI 190464)), s)
set_option maxHeartbeats 8000000 in
set_option maxRecDepth 100000 in
theorem N_MH_high_0 (l : Launch) (g : Gd) (sz : Nat) (T : TyN) (s : Sto) (pl : va_W) (hO : okn g T s pl) (hU : inj T) (h0 : Nat) (v : Int32) (k_h0 : T h0 = some 225) (e_c0 : s.1 225 23 = nI 0) (e_c1 : s.1 225 24 = nI 4) (e_c2 : s.1 225 25 = nI 4) (e_c3 : s.1 225 26 = nI 2) (e_c4 : s.1 225 27 = nI 131072) (e_c5 : s.1 225 28 = nI 95232) (e_c6 : s.1 225 29 = nI 78) (e_c7 : s.1 225 30 = nI 32)  : Met l y_MH_high w_MH_high ({ frames := 0, cells := 0, slots := 0, locals := 0 } : Room) (va_Pc [.ref h0, .int v] (pr (en g) g.1 vcl sz ([] ++ pl))) (va_Qi (fun (r : Int32) (u : (Int32 × Sto) × va_W) => (u.1 = F_MH_high_0 v s ∧ r = u.1.1 ∧ frm (M_MH_high_0) s u.1.2 ∧ True) ∧ okn g T u.1.2 u.2) (po g.1 vcl (va_A ([] ++ pl) sz) (fun (u : (Int32 × Sto) × va_W) => [] ++ u.2)) (va_A ([] ++ pl) sz)) 0 0 (va_A ([] ++ pl) sz) := by
  refine mc_entry (cc := c_MH_high) (maxL := 3) (ret := (some .int)) (by decide) rfl (Nat.le_of_ble_eq_true rfl) ?_
  intro p e s0 m args below meth c ls F hr hlk hnm hsz hP hD hE hA hl
  obtain ⟨hx, hb, hml, hown, hts⟩ := id F
  have hK := hE.1
  generalize va_A ([] ++ pl) sz = A at hD hE hA ⊢
  have hS : va_S A s0.heap s0.heap [] := va_S.rf
  have hl : lv_has ls 3 [(0, .ref h0), (1, .int v)] := hl
  have hR : F_MH_high_0 v s = F_MH_high_0 v s := rfl
  have hF : frm (M_MH_high_0) s s := frm_rf
  refine lv_iload_n hx hb dMH_high_0 rfl (lv_at hl 1 rfl) ?_
  refine lv_iconst (v := nI 2) hx hb dMH_high_1 (by decide) ?_
  refine lv_aload_n hx hb dMH_high_2 rfl (lv_at hl 0 rfl) ?_
  refine nw_get (C := "LatticeKeysModel$Hands") (TT := T_MH) (N := 31) hx hb hts (wg_ft i_MH) hown hK hO k_h0 (kn := 225) (ci := 12) (fl := [(3, 172), (3, 181), (3, 226), (3, 291), (3, 299), (3, 308), (3, 317), (3, 326), (3, 334), (3, 342), (3, 350), (3, 359), (3, 368), (3, 369), (3, 370), (3, 371), (3, 372), (3, 373), (3, 374), (3, 375), (3, 376), (3, 377), (3, 378), (0, 0), (0, 0), (0, 0), (0, 0), (0, 0), (0, 0), (0, 0), (0, 0)]) rfl hP rfl 28 (by decide) (hts _ (wg_t kw_1460)) (fun _ h9 => h9) (cd := (0, 0)) rfl dMH_high_3 (fun v21 hv21 => ?_)
  obtain rfl := (show v21 = .int (s.1 225 28) from hv21)
  obtain ⟨z21, ez21, hz21, hz22⟩ := cl_of (b := 2147483648) e_c5 (by omega) (by decide)
  replace hR := bnd_step hR ez21
  refine mi_as hz21 ?_
  subst hz22
  refine mi_imul hx hb dMH_high_6 ?_
  refine mi_as (show nI (2 * 95232) = nI 190464 from rfl) ?_
  refine lv_irem hx hb dMH_high_7 (nI_ne0 (by omega) (by omega)) ?_
  refine mi_eqv (fun z22 ez22 => ?_)
  replace hR := bnd_step hR ez22
  refine lv_istore_n (lv' := [(2, .int z22), (0, .ref h0), (1, .int v)]) hx hb dMH_high_8 rfl hl (by decide) rfl (fun ls hl => ?_)
  refine lv_iload_n hx hb dMH_high_9 rfl (lv_at hl 0 rfl) ?_
  refine lv_aload_n hx hb dMH_high_10 rfl (lv_at hl 1 rfl) ?_
  refine nw_get (C := "LatticeKeysModel$Hands") (TT := T_MH) (N := 31) hx hb hts (wg_ft i_MH) hown hK hO k_h0 (kn := 225) (ci := 12) (fl := [(3, 172), (3, 181), (3, 226), (3, 291), (3, 299), (3, 308), (3, 317), (3, 326), (3, 334), (3, 342), (3, 350), (3, 359), (3, 368), (3, 369), (3, 370), (3, 371), (3, 372), (3, 373), (3, 374), (3, 375), (3, 376), (3, 377), (3, 378), (0, 0), (0, 0), (0, 0), (0, 0), (0, 0), (0, 0), (0, 0), (0, 0)]) rfl hP rfl 28 (by decide) (hts _ (wg_t kw_1460)) (fun _ h9 => h9) (cd := (0, 0)) rfl dMH_high_11 (fun v22 hv22 => ?_)
  obtain rfl := (show v22 = .int (s.1 225 28) from hv22)
  obtain ⟨z23, ez23, hz23, hz24⟩ := cl_of (b := 2147483648) e_c5 (by omega) (by decide)
  replace hR := bnd_step hR ez23
  refine mi_as hz23 ?_
  subst hz24
  refine lv_icmp_le (tgt := 26) hx hb dMH_high_14 (by decide) (fun h21 => ?_) (fun h21 => ?_)
  · replace hR := hR.trans (if_pos h21)
    refine lv_iload_n hx hb dMH_high_26 rfl (lv_at hl 2 rfl) ?_
    refine lv_iload_n hx hb dMH_high_27 rfl (lv_at hl 0 rfl) ?_
    refine lv_isub hx hb dMH_high_28 ?_
    refine lv_ldc (v := 8380416) hx hb hown (hts _ (wg_t kw_1884)) dMH_high_29 ?_
    refine mi_as (show (8380416 : Int32) = nI 8380416 by decide) ?_
    refine lv_icmp_ne (tgt := 38) hx hb dMH_high_31 (by decide) (fun h22 => ?_) (fun h22 => ?_)
    · replace hR := hR.trans (if_neg h22)
      refine lv_iload_n hx hb dMH_high_38 rfl (lv_at hl 2 rfl) ?_
      refine lv_iload_n hx hb dMH_high_39 rfl (lv_at hl 0 rfl) ?_
      refine lv_isub hx hb dMH_high_40 ?_
      refine lv_iconst (v := nI 2) hx hb dMH_high_41 (by decide) ?_
      refine lv_aload_n hx hb dMH_high_42 rfl (lv_at hl 1 rfl) ?_
      refine nw_get (C := "LatticeKeysModel$Hands") (TT := T_MH) (N := 31) hx hb hts (wg_ft i_MH) hown hK hO k_h0 (kn := 225) (ci := 12) (fl := [(3, 172), (3, 181), (3, 226), (3, 291), (3, 299), (3, 308), (3, 317), (3, 326), (3, 334), (3, 342), (3, 350), (3, 359), (3, 368), (3, 369), (3, 370), (3, 371), (3, 372), (3, 373), (3, 374), (3, 375), (3, 376), (3, 377), (3, 378), (0, 0), (0, 0), (0, 0), (0, 0), (0, 0), (0, 0), (0, 0), (0, 0)]) rfl hP rfl 28 (by decide) (hts _ (wg_t kw_1460)) (fun _ h9 => h9) (cd := (0, 0)) rfl dMH_high_43 (fun v23 hv23 => ?_)
      obtain rfl := (show v23 = .int (s.1 225 28) from hv23)
      obtain ⟨z24, ez24, hz25, hz26⟩ := cl_of (b := 2147483648) e_c5 (by omega) (by decide)
      replace hR := bnd_step hR ez24
      refine mi_as hz25 ?_
      subst hz26
      refine mi_imul hx hb dMH_high_46 ?_
      refine mi_as (show nI (2 * 95232) = nI 190464 from rfl) ?_
      refine lv_idiv hx hb dMH_high_47 (nI_ne0 (by omega) (by omega)) ?_
      exact mp_iret hx hb hr hlk hP hD hS ((((v - z22) / (nI 190464)), s), pl) ⟨⟨hR.symm, rfl, hF, trivial⟩, hO⟩ [] rfl rfl rfl (by omega) (by omega) dMH_high_48
    · replace hR := hR.trans (if_pos h22)
      refine lv_iconst (v := nI 0) hx hb dMH_high_34 (by decide) ?_
      refine lv_goto (tgt := 48) hx hb dMH_high_35 (by decide) ?_
      exact mp_iret hx hb hr hlk hP hD hS ((nI 0, s), pl) ⟨⟨hR.symm, rfl, hF, trivial⟩, hO⟩ [] rfl rfl rfl (by omega) (by omega) dMH_high_48
  · replace hR := hR.trans (if_neg h21)
    refine lv_iload_n hx hb dMH_high_17 rfl (lv_at hl 0 rfl) ?_
    refine lv_iconst (v := nI 2) hx hb dMH_high_18 (by decide) ?_
    refine lv_aload_n hx hb dMH_high_19 rfl (lv_at hl 1 rfl) ?_
    refine nw_get (C := "LatticeKeysModel$Hands") (TT := T_MH) (N := 31) hx hb hts (wg_ft i_MH) hown hK hO k_h0 (kn := 225) (ci := 12) (fl := [(3, 172), (3, 181), (3, 226), (3, 291), (3, 299), (3, 308), (3, 317), (3, 326), (3, 334), (3, 342), (3, 350), (3, 359), (3, 368), (3, 369), (3, 370), (3, 371), (3, 372), (3, 373), (3, 374), (3, 375), (3, 376), (3, 377), (3, 378), (0, 0), (0, 0), (0, 0), (0, 0), (0, 0), (0, 0), (0, 0), (0, 0)]) rfl hP rfl 28 (by decide) (hts _ (wg_t kw_1460)) (fun _ h9 => h9) (cd := (0, 0)) rfl dMH_high_20 (fun v24 hv24 => ?_)
    obtain rfl := (show v24 = .int (s.1 225 28) from hv24)
    obtain ⟨z25, ez25, hz27, hz28⟩ := cl_of (b := 2147483648) e_c5 (by omega) (by decide)
    replace hR := bnd_step hR ez25
    refine mi_as hz27 ?_
    subst hz28
    refine mi_imul hx hb dMH_high_23 ?_
    refine mi_as (show nI (2 * 95232) = nI 190464 from rfl) ?_
    refine lv_isub hx hb dMH_high_24 ?_
    refine mi_eqv (fun z26 ez26 => ?_)
    replace hR := bnd_step hR ez26
    refine lv_istore_n (lv' := [(2, .int z26), (0, .ref h0), (1, .int v)]) hx hb dMH_high_25 rfl hl (by decide) rfl (fun ls hl => ?_)
    refine lv_iload_n hx hb dMH_high_26 rfl (lv_at hl 2 rfl) ?_
    refine lv_iload_n hx hb dMH_high_27 rfl (lv_at hl 0 rfl) ?_
    refine lv_isub hx hb dMH_high_28 ?_
    refine lv_ldc (v := 8380416) hx hb hown (hts _ (wg_t kw_1884)) dMH_high_29 ?_
    refine mi_as (show (8380416 : Int32) = nI 8380416 by decide) ?_
    refine lv_icmp_ne (tgt := 38) hx hb dMH_high_31 (by decide) (fun h23 => ?_) (fun h23 => ?_)
    · replace hR := hR.trans (if_neg h23)
      refine lv_iload_n hx hb dMH_high_38 rfl (lv_at hl 2 rfl) ?_
      refine lv_iload_n hx hb dMH_high_39 rfl (lv_at hl 0 rfl) ?_
      refine lv_isub hx hb dMH_high_40 ?_
      refine lv_iconst (v := nI 2) hx hb dMH_high_41 (by decide) ?_
      refine lv_aload_n hx hb dMH_high_42 rfl (lv_at hl 1 rfl) ?_
      refine nw_get (C := "LatticeKeysModel$Hands") (TT := T_MH) (N := 31) hx hb hts (wg_ft i_MH) hown hK hO k_h0 (kn := 225) (ci := 12) (fl := [(3, 172), (3, 181), (3, 226), (3, 291), (3, 299), (3, 308), (3, 317), (3, 326), (3, 334), (3, 342), (3, 350), (3, 359), (3, 368), (3, 369), (3, 370), (3, 371), (3, 372), (3, 373), (3, 374), (3, 375), (3, 376), (3, 377), (3, 378), (0, 0), (0, 0), (0, 0), (0, 0), (0, 0), (0, 0), (0, 0), (0, 0)]) rfl hP rfl 28 (by decide) (hts _ (wg_t kw_1460)) (fun _ h9 => h9) (cd := (0, 0)) rfl dMH_high_43 (fun v25 hv25 => ?_)
      obtain rfl := (show v25 = .int (s.1 225 28) from hv25)
      obtain ⟨z27, ez27, hz29, hz30⟩ := cl_of (b := 2147483648) e_c5 (by omega) (by decide)
      replace hR := bnd_step hR ez27
      refine mi_as hz29 ?_
      subst hz30
      refine mi_imul hx hb dMH_high_46 ?_
      refine mi_as (show nI (2 * 95232) = nI 190464 from rfl) ?_
      refine lv_idiv hx hb dMH_high_47 (nI_ne0 (by omega) (by omega)) ?_
      exact mp_iret hx hb hr hlk hP hD hS ((((v - z26) / (nI 190464)), s), pl) ⟨⟨hR.symm, rfl, hF, trivial⟩, hO⟩ [] rfl rfl rfl (by omega) (by omega) dMH_high_48
    · replace hR := hR.trans (if_pos h23)
      refine lv_iconst (v := nI 0) hx hb dMH_high_34 (by decide) ?_
      refine lv_goto (tgt := 48) hx hb dMH_high_35 (by decide) ?_
      exact mp_iret hx hb hr hlk hP hD hS ((nI 0, s), pl) ⟨⟨hR.symm, rfl, hF, trivial⟩, hO⟩ [] rfl rfl rfl (by omega) (by omega) dMH_high_48
def M_MH_high_1 (k : Nat) : Prop := (0 : Nat) = 1
noncomputable def F_MH_high_1 (v : Int32) (s : Sto) : Int32 × Sto := bnd ((s.1 225 28).toNatClampNeg) fun z21 => bnd ((v - v / (nI 523776) * (nI 523776))) fun z22 => bnd ((s.1 225 28).toNatClampNeg) fun z23 => if z22 ≤ (nI 261888) then if (v - z22) = (nI 8380416) then (nI 0, s) else bnd ((s.1 225 28).toNatClampNeg) fun z24 => (((v - z22) / (nI 523776)), s) else bnd ((s.1 225 28).toNatClampNeg) fun z25 => bnd ((z22 - (nI 523776))) fun z26 => if (v - z26) = (nI 8380416) then (nI 0, s) else bnd ((s.1 225 28).toNatClampNeg) fun z27 => (((v - z26) / (nI 523776)), s)
set_option maxHeartbeats 8000000 in
set_option maxRecDepth 100000 in
theorem N_MH_high_1 (l : Launch) (g : Gd) (sz : Nat) (T : TyN) (s : Sto) (pl : va_W) (hO : okn g T s pl) (hU : inj T) (h0 : Nat) (v : Int32) (k_h0 : T h0 = some 225) (e_c0 : s.1 225 23 = nI 1) (e_c1 : s.1 225 24 = nI 6) (e_c2 : s.1 225 25 = nI 5) (e_c3 : s.1 225 26 = nI 4) (e_c4 : s.1 225 27 = nI 524288) (e_c5 : s.1 225 28 = nI 261888) (e_c6 : s.1 225 29 = nI 196) (e_c7 : s.1 225 30 = nI 48)  : Met l y_MH_high w_MH_high ({ frames := 0, cells := 0, slots := 0, locals := 0 } : Room) (va_Pc [.ref h0, .int v] (pr (en g) g.1 vcl sz ([] ++ pl))) (va_Qi (fun (r : Int32) (u : (Int32 × Sto) × va_W) => (u.1 = F_MH_high_1 v s ∧ r = u.1.1 ∧ frm (M_MH_high_1) s u.1.2 ∧ True) ∧ okn g T u.1.2 u.2) (po g.1 vcl (va_A ([] ++ pl) sz) (fun (u : (Int32 × Sto) × va_W) => [] ++ u.2)) (va_A ([] ++ pl) sz)) 0 0 (va_A ([] ++ pl) sz) := by
  refine mc_entry (cc := c_MH_high) (maxL := 3) (ret := (some .int)) (by decide) rfl (Nat.le_of_ble_eq_true rfl) ?_
  intro p e s0 m args below meth c ls F hr hlk hnm hsz hP hD hE hA hl
  obtain ⟨hx, hb, hml, hown, hts⟩ := id F
  have hK := hE.1
  generalize va_A ([] ++ pl) sz = A at hD hE hA ⊢
  have hS : va_S A s0.heap s0.heap [] := va_S.rf
  have hl : lv_has ls 3 [(0, .ref h0), (1, .int v)] := hl
  have hR : F_MH_high_1 v s = F_MH_high_1 v s := rfl
  have hF : frm (M_MH_high_1) s s := frm_rf
  refine lv_iload_n hx hb dMH_high_0 rfl (lv_at hl 1 rfl) ?_
  refine lv_iconst (v := nI 2) hx hb dMH_high_1 (by decide) ?_
  refine lv_aload_n hx hb dMH_high_2 rfl (lv_at hl 0 rfl) ?_
  refine nw_get (C := "LatticeKeysModel$Hands") (TT := T_MH) (N := 31) hx hb hts (wg_ft i_MH) hown hK hO k_h0 (kn := 225) (ci := 12) (fl := [(3, 172), (3, 181), (3, 226), (3, 291), (3, 299), (3, 308), (3, 317), (3, 326), (3, 334), (3, 342), (3, 350), (3, 359), (3, 368), (3, 369), (3, 370), (3, 371), (3, 372), (3, 373), (3, 374), (3, 375), (3, 376), (3, 377), (3, 378), (0, 0), (0, 0), (0, 0), (0, 0), (0, 0), (0, 0), (0, 0), (0, 0)]) rfl hP rfl 28 (by decide) (hts _ (wg_t kw_1460)) (fun _ h9 => h9) (cd := (0, 0)) rfl dMH_high_3 (fun v21 hv21 => ?_)
  obtain rfl := (show v21 = .int (s.1 225 28) from hv21)
  obtain ⟨z21, ez21, hz21, hz22⟩ := cl_of (b := 2147483648) e_c5 (by omega) (by decide)
  replace hR := bnd_step hR ez21
  refine mi_as hz21 ?_
  subst hz22
  refine mi_imul hx hb dMH_high_6 ?_
  refine mi_as (show nI (2 * 261888) = nI 523776 from rfl) ?_
  refine lv_irem hx hb dMH_high_7 (nI_ne0 (by omega) (by omega)) ?_
  refine mi_eqv (fun z22 ez22 => ?_)
  replace hR := bnd_step hR ez22
  refine lv_istore_n (lv' := [(2, .int z22), (0, .ref h0), (1, .int v)]) hx hb dMH_high_8 rfl hl (by decide) rfl (fun ls hl => ?_)
  refine lv_iload_n hx hb dMH_high_9 rfl (lv_at hl 0 rfl) ?_
  refine lv_aload_n hx hb dMH_high_10 rfl (lv_at hl 1 rfl) ?_
  refine nw_get (C := "LatticeKeysModel$Hands") (TT := T_MH) (N := 31) hx hb hts (wg_ft i_MH) hown hK hO k_h0 (kn := 225) (ci := 12) (fl := [(3, 172), (3, 181), (3, 226), (3, 291), (3, 299), (3, 308), (3, 317), (3, 326), (3, 334), (3, 342), (3, 350), (3, 359), (3, 368), (3, 369), (3, 370), (3, 371), (3, 372), (3, 373), (3, 374), (3, 375), (3, 376), (3, 377), (3, 378), (0, 0), (0, 0), (0, 0), (0, 0), (0, 0), (0, 0), (0, 0), (0, 0)]) rfl hP rfl 28 (by decide) (hts _ (wg_t kw_1460)) (fun _ h9 => h9) (cd := (0, 0)) rfl dMH_high_11 (fun v22 hv22 => ?_)
  obtain rfl := (show v22 = .int (s.1 225 28) from hv22)
  obtain ⟨z23, ez23, hz23, hz24⟩ := cl_of (b := 2147483648) e_c5 (by omega) (by decide)
  replace hR := bnd_step hR ez23
  refine mi_as hz23 ?_
  subst hz24
  refine lv_icmp_le (tgt := 26) hx hb dMH_high_14 (by decide) (fun h21 => ?_) (fun h21 => ?_)
  · replace hR := hR.trans (if_pos h21)
    refine lv_iload_n hx hb dMH_high_26 rfl (lv_at hl 2 rfl) ?_
    refine lv_iload_n hx hb dMH_high_27 rfl (lv_at hl 0 rfl) ?_
    refine lv_isub hx hb dMH_high_28 ?_
    refine lv_ldc (v := 8380416) hx hb hown (hts _ (wg_t kw_1884)) dMH_high_29 ?_
    refine mi_as (show (8380416 : Int32) = nI 8380416 by decide) ?_
    refine lv_icmp_ne (tgt := 38) hx hb dMH_high_31 (by decide) (fun h22 => ?_) (fun h22 => ?_)
    · replace hR := hR.trans (if_neg h22)
      refine lv_iload_n hx hb dMH_high_38 rfl (lv_at hl 2 rfl) ?_
      refine lv_iload_n hx hb dMH_high_39 rfl (lv_at hl 0 rfl) ?_
      refine lv_isub hx hb dMH_high_40 ?_
      refine lv_iconst (v := nI 2) hx hb dMH_high_41 (by decide) ?_
      refine lv_aload_n hx hb dMH_high_42 rfl (lv_at hl 1 rfl) ?_
      refine nw_get (C := "LatticeKeysModel$Hands") (TT := T_MH) (N := 31) hx hb hts (wg_ft i_MH) hown hK hO k_h0 (kn := 225) (ci := 12) (fl := [(3, 172), (3, 181), (3, 226), (3, 291), (3, 299), (3, 308), (3, 317), (3, 326), (3, 334), (3, 342), (3, 350), (3, 359), (3, 368), (3, 369), (3, 370), (3, 371), (3, 372), (3, 373), (3, 374), (3, 375), (3, 376), (3, 377), (3, 378), (0, 0), (0, 0), (0, 0), (0, 0), (0, 0), (0, 0), (0, 0), (0, 0)]) rfl hP rfl 28 (by decide) (hts _ (wg_t kw_1460)) (fun _ h9 => h9) (cd := (0, 0)) rfl dMH_high_43 (fun v23 hv23 => ?_)
      obtain rfl := (show v23 = .int (s.1 225 28) from hv23)
      obtain ⟨z24, ez24, hz25, hz26⟩ := cl_of (b := 2147483648) e_c5 (by omega) (by decide)
      replace hR := bnd_step hR ez24
      refine mi_as hz25 ?_
      subst hz26
      refine mi_imul hx hb dMH_high_46 ?_
      refine mi_as (show nI (2 * 261888) = nI 523776 from rfl) ?_
      refine lv_idiv hx hb dMH_high_47 (nI_ne0 (by omega) (by omega)) ?_
      exact mp_iret hx hb hr hlk hP hD hS ((((v - z22) / (nI 523776)), s), pl) ⟨⟨hR.symm, rfl, hF, trivial⟩, hO⟩ [] rfl rfl rfl (by omega) (by omega) dMH_high_48
    · replace hR := hR.trans (if_pos h22)
      refine lv_iconst (v := nI 0) hx hb dMH_high_34 (by decide) ?_
      refine lv_goto (tgt := 48) hx hb dMH_high_35 (by decide) ?_
      exact mp_iret hx hb hr hlk hP hD hS ((nI 0, s), pl) ⟨⟨hR.symm, rfl, hF, trivial⟩, hO⟩ [] rfl rfl rfl (by omega) (by omega) dMH_high_48
  · replace hR := hR.trans (if_neg h21)
    refine lv_iload_n hx hb dMH_high_17 rfl (lv_at hl 0 rfl) ?_
    refine lv_iconst (v := nI 2) hx hb dMH_high_18 (by decide) ?_
    refine lv_aload_n hx hb dMH_high_19 rfl (lv_at hl 1 rfl) ?_
    refine nw_get (C := "LatticeKeysModel$Hands") (TT := T_MH) (N := 31) hx hb hts (wg_ft i_MH) hown hK hO k_h0 (kn := 225) (ci := 12) (fl := [(3, 172), (3, 181), (3, 226), (3, 291), (3, 299), (3, 308), (3, 317), (3, 326), (3, 334), (3, 342), (3, 350), (3, 359), (3, 368), (3, 369), (3, 370), (3, 371), (3, 372), (3, 373), (3, 374), (3, 375), (3, 376), (3, 377), (3, 378), (0, 0), (0, 0), (0, 0), (0, 0), (0, 0), (0, 0), (0, 0), (0, 0)]) rfl hP rfl 28 (by decide) (hts _ (wg_t kw_1460)) (fun _ h9 => h9) (cd := (0, 0)) rfl dMH_high_20 (fun v24 hv24 => ?_)
    obtain rfl := (show v24 = .int (s.1 225 28) from hv24)
    obtain ⟨z25, ez25, hz27, hz28⟩ := cl_of (b := 2147483648) e_c5 (by omega) (by decide)
    replace hR := bnd_step hR ez25
    refine mi_as hz27 ?_
    subst hz28
    refine mi_imul hx hb dMH_high_23 ?_
    refine mi_as (show nI (2 * 261888) = nI 523776 from rfl) ?_
    refine lv_isub hx hb dMH_high_24 ?_
    refine mi_eqv (fun z26 ez26 => ?_)
    replace hR := bnd_step hR ez26
    refine lv_istore_n (lv' := [(2, .int z26), (0, .ref h0), (1, .int v)]) hx hb dMH_high_25 rfl hl (by decide) rfl (fun ls hl => ?_)
    refine lv_iload_n hx hb dMH_high_26 rfl (lv_at hl 2 rfl) ?_
    refine lv_iload_n hx hb dMH_high_27 rfl (lv_at hl 0 rfl) ?_
    refine lv_isub hx hb dMH_high_28 ?_
    refine lv_ldc (v := 8380416) hx hb hown (hts _ (wg_t kw_1884)) dMH_high_29 ?_
    refine mi_as (show (8380416 : Int32) = nI 8380416 by decide) ?_
    refine lv_icmp_ne (tgt := 38) hx hb dMH_high_31 (by decide) (fun h23 => ?_) (fun h23 => ?_)
    · replace hR := hR.trans (if_neg h23)
      refine lv_iload_n hx hb dMH_high_38 rfl (lv_at hl 2 rfl) ?_
      refine lv_iload_n hx hb dMH_high_39 rfl (lv_at hl 0 rfl) ?_
      refine lv_isub hx hb dMH_high_40 ?_
      refine lv_iconst (v := nI 2) hx hb dMH_high_41 (by decide) ?_
      refine lv_aload_n hx hb dMH_high_42 rfl (lv_at hl 1 rfl) ?_
      refine nw_get (C := "LatticeKeysModel$Hands") (TT := T_MH) (N := 31) hx hb hts (wg_ft i_MH) hown hK hO k_h0 (kn := 225) (ci := 12) (fl := [(3, 172), (3, 181), (3, 226), (3, 291), (3, 299), (3, 308), (3, 317), (3, 326), (3, 334), (3, 342), (3, 350), (3, 359), (3, 368), (3, 369), (3, 370), (3, 371), (3, 372), (3, 373), (3, 374), (3, 375), (3, 376), (3, 377), (3, 378), (0, 0), (0, 0), (0, 0), (0, 0), (0, 0), (0, 0), (0, 0), (0, 0)]) rfl hP rfl 28 (by decide) (hts _ (wg_t kw_1460)) (fun _ h9 => h9) (cd := (0, 0)) rfl dMH_high_43 (fun v25 hv25 => ?_)
      obtain rfl := (show v25 = .int (s.1 225 28) from hv25)
      obtain ⟨z27, ez27, hz29, hz30⟩ := cl_of (b := 2147483648) e_c5 (by omega) (by decide)
      replace hR := bnd_step hR ez27
      refine mi_as hz29 ?_
      subst hz30
      refine mi_imul hx hb dMH_high_46 ?_
      refine mi_as (show nI (2 * 261888) = nI 523776 from rfl) ?_
      refine lv_idiv hx hb dMH_high_47 (nI_ne0 (by omega) (by omega)) ?_
      exact mp_iret hx hb hr hlk hP hD hS ((((v - z26) / (nI 523776)), s), pl) ⟨⟨hR.symm, rfl, hF, trivial⟩, hO⟩ [] rfl rfl rfl (by omega) (by omega) dMH_high_48
    · replace hR := hR.trans (if_pos h23)
      refine lv_iconst (v := nI 0) hx hb dMH_high_34 (by decide) ?_
      refine lv_goto (tgt := 48) hx hb dMH_high_35 (by decide) ?_
      exact mp_iret hx hb hr hlk hP hD hS ((nI 0, s), pl) ⟨⟨hR.symm, rfl, hF, trivial⟩, hO⟩ [] rfl rfl rfl (by omega) (by omega) dMH_high_48
def M_MH_high_2 (k : Nat) : Prop := (0 : Nat) = 1
noncomputable def F_MH_high_2 (v : Int32) (s : Sto) : Int32 × Sto := bnd ((s.1 225 28).toNatClampNeg) fun z21 => bnd ((v - v / (nI 523776) * (nI 523776))) fun z22 => bnd ((s.1 225 28).toNatClampNeg) fun z23 => if z22 ≤ (nI 261888) then if (v - z22) = (nI 8380416) then (nI 0, s) else bnd ((s.1 225 28).toNatClampNeg) fun z24 => (((v - z22) / (nI 523776)), s) else bnd ((s.1 225 28).toNatClampNeg) fun z25 => bnd ((z22 - (nI 523776))) fun z26 => if (v - z26) = (nI 8380416) then (nI 0, s) else bnd ((s.1 225 28).toNatClampNeg) fun z27 => (((v - z26) / (nI 523776)), s)
set_option maxHeartbeats 8000000 in
set_option maxRecDepth 100000 in
theorem N_MH_high_2 (l : Launch) (g : Gd) (sz : Nat) (T : TyN) (s : Sto) (pl : va_W) (hO : okn g T s pl) (hU : inj T) (h0 : Nat) (v : Int32) (k_h0 : T h0 = some 225) (e_c0 : s.1 225 23 = nI 2) (e_c1 : s.1 225 24 = nI 8) (e_c2 : s.1 225 25 = nI 7) (e_c3 : s.1 225 26 = nI 2) (e_c4 : s.1 225 27 = nI 524288) (e_c5 : s.1 225 28 = nI 261888) (e_c6 : s.1 225 29 = nI 120) (e_c7 : s.1 225 30 = nI 64)  : Met l y_MH_high w_MH_high ({ frames := 0, cells := 0, slots := 0, locals := 0 } : Room) (va_Pc [.ref h0, .int v] (pr (en g) g.1 vcl sz ([] ++ pl))) (va_Qi (fun (r : Int32) (u : (Int32 × Sto) × va_W) => (u.1 = F_MH_high_2 v s ∧ r = u.1.1 ∧ frm (M_MH_high_2) s u.1.2 ∧ True) ∧ okn g T u.1.2 u.2) (po g.1 vcl (va_A ([] ++ pl) sz) (fun (u : (Int32 × Sto) × va_W) => [] ++ u.2)) (va_A ([] ++ pl) sz)) 0 0 (va_A ([] ++ pl) sz) := by
  refine mc_entry (cc := c_MH_high) (maxL := 3) (ret := (some .int)) (by decide) rfl (Nat.le_of_ble_eq_true rfl) ?_
  intro p e s0 m args below meth c ls F hr hlk hnm hsz hP hD hE hA hl
  obtain ⟨hx, hb, hml, hown, hts⟩ := id F
  have hK := hE.1
  generalize va_A ([] ++ pl) sz = A at hD hE hA ⊢
  have hS : va_S A s0.heap s0.heap [] := va_S.rf
  have hl : lv_has ls 3 [(0, .ref h0), (1, .int v)] := hl
  have hR : F_MH_high_2 v s = F_MH_high_2 v s := rfl
  have hF : frm (M_MH_high_2) s s := frm_rf
  refine lv_iload_n hx hb dMH_high_0 rfl (lv_at hl 1 rfl) ?_
  refine lv_iconst (v := nI 2) hx hb dMH_high_1 (by decide) ?_
  refine lv_aload_n hx hb dMH_high_2 rfl (lv_at hl 0 rfl) ?_
  refine nw_get (C := "LatticeKeysModel$Hands") (TT := T_MH) (N := 31) hx hb hts (wg_ft i_MH) hown hK hO k_h0 (kn := 225) (ci := 12) (fl := [(3, 172), (3, 181), (3, 226), (3, 291), (3, 299), (3, 308), (3, 317), (3, 326), (3, 334), (3, 342), (3, 350), (3, 359), (3, 368), (3, 369), (3, 370), (3, 371), (3, 372), (3, 373), (3, 374), (3, 375), (3, 376), (3, 377), (3, 378), (0, 0), (0, 0), (0, 0), (0, 0), (0, 0), (0, 0), (0, 0), (0, 0)]) rfl hP rfl 28 (by decide) (hts _ (wg_t kw_1460)) (fun _ h9 => h9) (cd := (0, 0)) rfl dMH_high_3 (fun v21 hv21 => ?_)
  obtain rfl := (show v21 = .int (s.1 225 28) from hv21)
  obtain ⟨z21, ez21, hz21, hz22⟩ := cl_of (b := 2147483648) e_c5 (by omega) (by decide)
  replace hR := bnd_step hR ez21
  refine mi_as hz21 ?_
  subst hz22
  refine mi_imul hx hb dMH_high_6 ?_
  refine mi_as (show nI (2 * 261888) = nI 523776 from rfl) ?_
  refine lv_irem hx hb dMH_high_7 (nI_ne0 (by omega) (by omega)) ?_
  refine mi_eqv (fun z22 ez22 => ?_)
  replace hR := bnd_step hR ez22
  refine lv_istore_n (lv' := [(2, .int z22), (0, .ref h0), (1, .int v)]) hx hb dMH_high_8 rfl hl (by decide) rfl (fun ls hl => ?_)
  refine lv_iload_n hx hb dMH_high_9 rfl (lv_at hl 0 rfl) ?_
  refine lv_aload_n hx hb dMH_high_10 rfl (lv_at hl 1 rfl) ?_
  refine nw_get (C := "LatticeKeysModel$Hands") (TT := T_MH) (N := 31) hx hb hts (wg_ft i_MH) hown hK hO k_h0 (kn := 225) (ci := 12) (fl := [(3, 172), (3, 181), (3, 226), (3, 291), (3, 299), (3, 308), (3, 317), (3, 326), (3, 334), (3, 342), (3, 350), (3, 359), (3, 368), (3, 369), (3, 370), (3, 371), (3, 372), (3, 373), (3, 374), (3, 375), (3, 376), (3, 377), (3, 378), (0, 0), (0, 0), (0, 0), (0, 0), (0, 0), (0, 0), (0, 0), (0, 0)]) rfl hP rfl 28 (by decide) (hts _ (wg_t kw_1460)) (fun _ h9 => h9) (cd := (0, 0)) rfl dMH_high_11 (fun v22 hv22 => ?_)
  obtain rfl := (show v22 = .int (s.1 225 28) from hv22)
  obtain ⟨z23, ez23, hz23, hz24⟩ := cl_of (b := 2147483648) e_c5 (by omega) (by decide)
  replace hR := bnd_step hR ez23
  refine mi_as hz23 ?_
  subst hz24
  refine lv_icmp_le (tgt := 26) hx hb dMH_high_14 (by decide) (fun h21 => ?_) (fun h21 => ?_)
  · replace hR := hR.trans (if_pos h21)
    refine lv_iload_n hx hb dMH_high_26 rfl (lv_at hl 2 rfl) ?_
    refine lv_iload_n hx hb dMH_high_27 rfl (lv_at hl 0 rfl) ?_
    refine lv_isub hx hb dMH_high_28 ?_
    refine lv_ldc (v := 8380416) hx hb hown (hts _ (wg_t kw_1884)) dMH_high_29 ?_
    refine mi_as (show (8380416 : Int32) = nI 8380416 by decide) ?_
    refine lv_icmp_ne (tgt := 38) hx hb dMH_high_31 (by decide) (fun h22 => ?_) (fun h22 => ?_)
    · replace hR := hR.trans (if_neg h22)
      refine lv_iload_n hx hb dMH_high_38 rfl (lv_at hl 2 rfl) ?_
      refine lv_iload_n hx hb dMH_high_39 rfl (lv_at hl 0 rfl) ?_
      refine lv_isub hx hb dMH_high_40 ?_
      refine lv_iconst (v := nI 2) hx hb dMH_high_41 (by decide) ?_
      refine lv_aload_n hx hb dMH_high_42 rfl (lv_at hl 1 rfl) ?_
      refine nw_get (C := "LatticeKeysModel$Hands") (TT := T_MH) (N := 31) hx hb hts (wg_ft i_MH) hown hK hO k_h0 (kn := 225) (ci := 12) (fl := [(3, 172), (3, 181), (3, 226), (3, 291), (3, 299), (3, 308), (3, 317), (3, 326), (3, 334), (3, 342), (3, 350), (3, 359), (3, 368), (3, 369), (3, 370), (3, 371), (3, 372), (3, 373), (3, 374), (3, 375), (3, 376), (3, 377), (3, 378), (0, 0), (0, 0), (0, 0), (0, 0), (0, 0), (0, 0), (0, 0), (0, 0)]) rfl hP rfl 28 (by decide) (hts _ (wg_t kw_1460)) (fun _ h9 => h9) (cd := (0, 0)) rfl dMH_high_43 (fun v23 hv23 => ?_)
      obtain rfl := (show v23 = .int (s.1 225 28) from hv23)
      obtain ⟨z24, ez24, hz25, hz26⟩ := cl_of (b := 2147483648) e_c5 (by omega) (by decide)
      replace hR := bnd_step hR ez24
      refine mi_as hz25 ?_
      subst hz26
      refine mi_imul hx hb dMH_high_46 ?_
      refine mi_as (show nI (2 * 261888) = nI 523776 from rfl) ?_
      refine lv_idiv hx hb dMH_high_47 (nI_ne0 (by omega) (by omega)) ?_
      exact mp_iret hx hb hr hlk hP hD hS ((((v - z22) / (nI 523776)), s), pl) ⟨⟨hR.symm, rfl, hF, trivial⟩, hO⟩ [] rfl rfl rfl (by omega) (by omega) dMH_high_48
    · replace hR := hR.trans (if_pos h22)
      refine lv_iconst (v := nI 0) hx hb dMH_high_34 (by decide) ?_
      refine lv_goto (tgt := 48) hx hb dMH_high_35 (by decide) ?_
      exact mp_iret hx hb hr hlk hP hD hS ((nI 0, s), pl) ⟨⟨hR.symm, rfl, hF, trivial⟩, hO⟩ [] rfl rfl rfl (by omega) (by omega) dMH_high_48
  · replace hR := hR.trans (if_neg h21)
    refine lv_iload_n hx hb dMH_high_17 rfl (lv_at hl 0 rfl) ?_
    refine lv_iconst (v := nI 2) hx hb dMH_high_18 (by decide) ?_
    refine lv_aload_n hx hb dMH_high_19 rfl (lv_at hl 1 rfl) ?_
    refine nw_get (C := "LatticeKeysModel$Hands") (TT := T_MH) (N := 31) hx hb hts (wg_ft i_MH) hown hK hO k_h0 (kn := 225) (ci := 12) (fl := [(3, 172), (3, 181), (3, 226), (3, 291), (3, 299), (3, 308), (3, 317), (3, 326), (3, 334), (3, 342), (3, 350), (3, 359), (3, 368), (3, 369), (3, 370), (3, 371), (3, 372), (3, 373), (3, 374), (3, 375), (3, 376), (3, 377), (3, 378), (0, 0), (0, 0), (0, 0), (0, 0), (0, 0), (0, 0), (0, 0), (0, 0)]) rfl hP rfl 28 (by decide) (hts _ (wg_t kw_1460)) (fun _ h9 => h9) (cd := (0, 0)) rfl dMH_high_20 (fun v24 hv24 => ?_)
    obtain rfl := (show v24 = .int (s.1 225 28) from hv24)
    obtain ⟨z25, ez25, hz27, hz28⟩ := cl_of (b := 2147483648) e_c5 (by omega) (by decide)
    replace hR := bnd_step hR ez25
    refine mi_as hz27 ?_
    subst hz28
    refine mi_imul hx hb dMH_high_23 ?_
    refine mi_as (show nI (2 * 261888) = nI 523776 from rfl) ?_
    refine lv_isub hx hb dMH_high_24 ?_
    refine mi_eqv (fun z26 ez26 => ?_)
    replace hR := bnd_step hR ez26
    refine lv_istore_n (lv' := [(2, .int z26), (0, .ref h0), (1, .int v)]) hx hb dMH_high_25 rfl hl (by decide) rfl (fun ls hl => ?_)
    refine lv_iload_n hx hb dMH_high_26 rfl (lv_at hl 2 rfl) ?_
    refine lv_iload_n hx hb dMH_high_27 rfl (lv_at hl 0 rfl) ?_
    refine lv_isub hx hb dMH_high_28 ?_
    refine lv_ldc (v := 8380416) hx hb hown (hts _ (wg_t kw_1884)) dMH_high_29 ?_
    refine mi_as (show (8380416 : Int32) = nI 8380416 by decide) ?_
    refine lv_icmp_ne (tgt := 38) hx hb dMH_high_31 (by decide) (fun h23 => ?_) (fun h23 => ?_)
    · replace hR := hR.trans (if_neg h23)
      refine lv_iload_n hx hb dMH_high_38 rfl (lv_at hl 2 rfl) ?_
      refine lv_iload_n hx hb dMH_high_39 rfl (lv_at hl 0 rfl) ?_
      refine lv_isub hx hb dMH_high_40 ?_
      refine lv_iconst (v := nI 2) hx hb dMH_high_41 (by decide) ?_
      refine lv_aload_n hx hb dMH_high_42 rfl (lv_at hl 1 rfl) ?_
      refine nw_get (C := "LatticeKeysModel$Hands") (TT := T_MH) (N := 31) hx hb hts (wg_ft i_MH) hown hK hO k_h0 (kn := 225) (ci := 12) (fl := [(3, 172), (3, 181), (3, 226), (3, 291), (3, 299), (3, 308), (3, 317), (3, 326), (3, 334), (3, 342), (3, 350), (3, 359), (3, 368), (3, 369), (3, 370), (3, 371), (3, 372), (3, 373), (3, 374), (3, 375), (3, 376), (3, 377), (3, 378), (0, 0), (0, 0), (0, 0), (0, 0), (0, 0), (0, 0), (0, 0), (0, 0)]) rfl hP rfl 28 (by decide) (hts _ (wg_t kw_1460)) (fun _ h9 => h9) (cd := (0, 0)) rfl dMH_high_43 (fun v25 hv25 => ?_)
      obtain rfl := (show v25 = .int (s.1 225 28) from hv25)
      obtain ⟨z27, ez27, hz29, hz30⟩ := cl_of (b := 2147483648) e_c5 (by omega) (by decide)
      replace hR := bnd_step hR ez27
      refine mi_as hz29 ?_
      subst hz30
      refine mi_imul hx hb dMH_high_46 ?_
      refine mi_as (show nI (2 * 261888) = nI 523776 from rfl) ?_
      refine lv_idiv hx hb dMH_high_47 (nI_ne0 (by omega) (by omega)) ?_
      exact mp_iret hx hb hr hlk hP hD hS ((((v - z26) / (nI 523776)), s), pl) ⟨⟨hR.symm, rfl, hF, trivial⟩, hO⟩ [] rfl rfl rfl (by omega) (by omega) dMH_high_48
    · replace hR := hR.trans (if_pos h23)
      refine lv_iconst (v := nI 0) hx hb dMH_high_34 (by decide) ?_
      refine lv_goto (tgt := 48) hx hb dMH_high_35 (by decide) ?_
      exact mp_iret hx hb hr hlk hP hD hS ((nI 0, s), pl) ⟨⟨hR.symm, rfl, hF, trivial⟩, hO⟩ [] rfl rfl rfl (by omega) (by omega) dMH_high_48
def M_MH_used_0 (k : Nat) : Prop := (0 : Nat) = 1
noncomputable def F_MH_used_0 (hh : Int32) (v : Int32) (s : Sto) : Int32 × Sto := bnd ((s.1 225 28).toNatClampNeg) fun z21 => if hh = 0 then bnd (F_MH_high_0 v s) fun q24 => (q24.1, q24.2) else bnd (F_MH_low_0 v s) fun q21 => if (q21.1) ≤ 0 then bnd (F_MH_high_0 v q21.2) fun q22 => (((((q22.1) + (nI 44)) - (nI 1)) - (((q22.1) + (nI 44)) - (nI 1)) / (nI 44) * (nI 44)), q22.2) else bnd (F_MH_high_0 v q21.2) fun q23 => ((((q23.1) + (nI 1)) - ((q23.1) + (nI 1)) / (nI 44) * (nI 44)), q23.2)
set_option maxHeartbeats 8000000 in
set_option maxRecDepth 100000 in
theorem N_MH_used_0 (l : Launch) (g : Gd) (sz : Nat) (T : TyN) (s : Sto) (pl : va_W) (hO : okn g T s pl) (hU : inj T) (h0 : Nat) (hh : Int32) (v : Int32) (k_h0 : T h0 = some 225) (e_c0 : s.1 225 23 = nI 0) (e_c1 : s.1 225 24 = nI 4) (e_c2 : s.1 225 25 = nI 4) (e_c3 : s.1 225 26 = nI 2) (e_c4 : s.1 225 27 = nI 131072) (e_c5 : s.1 225 28 = nI 95232) (e_c6 : s.1 225 29 = nI 78) (e_c7 : s.1 225 30 = nI 32)  : Met l y_MH_used w_MH_used ({ frames := 1, cells := 0, slots := 0, locals := 22 } : Room) (va_Pc [.ref h0, .int hh, .int v] (pr (en g) g.1 vcl sz ([] ++ pl))) (va_Qi (fun (r : Int32) (u : (Int32 × Sto) × va_W) => (u.1 = F_MH_used_0 hh v s ∧ r = u.1.1 ∧ frm (M_MH_used_0) s u.1.2 ∧ True) ∧ okn g T u.1.2 u.2) (po g.1 vcl (va_A ([] ++ pl) sz) (fun (u : (Int32 × Sto) × va_W) => [] ++ u.2)) (va_A ([] ++ pl) sz)) 0 0 (va_A ([] ++ pl) sz) := by
  refine mc_entry (cc := c_MH_used) (maxL := 4) (ret := (some .int)) (by decide) rfl (Nat.le_of_ble_eq_true rfl) ?_
  intro p e s0 m args below meth c ls F hr hlk hnm hsz hP hD hE hA hl
  obtain ⟨hx, hb, hml, hown, hts⟩ := id F
  have hK := hE.1
  generalize va_A ([] ++ pl) sz = A at hD hE hA ⊢
  have hS : va_S A s0.heap s0.heap [] := va_S.rf
  have hl : lv_has ls 4 [(0, .ref h0), (1, .int hh), (2, .int v)] := hl
  have hR : F_MH_used_0 hh v s = F_MH_used_0 hh v s := rfl
  have hF : frm (M_MH_used_0) s s := frm_rf
  refine lv_ldc (v := 8380416) hx hb hown (hts _ (wg_t kw_1884)) dMH_used_0 ?_
  refine mi_as (show (8380416 : Int32) = nI 8380416 by decide) ?_
  refine lv_iconst (v := nI 2) hx hb dMH_used_2 (by decide) ?_
  refine lv_aload_n hx hb dMH_used_3 rfl (lv_at hl 0 rfl) ?_
  refine nw_get (C := "LatticeKeysModel$Hands") (TT := T_MH) (N := 31) hx hb hts (wg_ft i_MH) hown hK hO k_h0 (kn := 225) (ci := 12) (fl := [(3, 172), (3, 181), (3, 226), (3, 291), (3, 299), (3, 308), (3, 317), (3, 326), (3, 334), (3, 342), (3, 350), (3, 359), (3, 368), (3, 369), (3, 370), (3, 371), (3, 372), (3, 373), (3, 374), (3, 375), (3, 376), (3, 377), (3, 378), (0, 0), (0, 0), (0, 0), (0, 0), (0, 0), (0, 0), (0, 0), (0, 0)]) rfl hP rfl 28 (by decide) (hts _ (wg_t kw_1460)) (fun _ h9 => h9) (cd := (0, 0)) rfl dMH_used_4 (fun v21 hv21 => ?_)
  obtain rfl := (show v21 = .int (s.1 225 28) from hv21)
  obtain ⟨z21, ez21, hz21, hz22⟩ := cl_of (b := 2147483648) e_c5 (by omega) (by decide)
  replace hR := bnd_step hR ez21
  refine mi_as hz21 ?_
  subst hz22
  refine mi_imul hx hb dMH_used_7 ?_
  refine mi_as (show nI (2 * 95232) = nI 190464 from rfl) ?_
  refine mi_idiv hx hb dMH_used_8 (by omega) (by omega) (by omega) ?_
  refine mi_as (show nI (8380416 / 190464) = nI 44 from rfl) ?_
  refine lv_istore_n (lv' := [(3, .int (nI 44)), (0, .ref h0), (1, .int hh), (2, .int v)]) hx hb dMH_used_9 rfl hl (by decide) rfl (fun ls hl => ?_)
  refine lv_iload_n hx hb dMH_used_10 rfl (lv_at hl 2 rfl) ?_
  refine lv_if_ne (tgt := 20) hx hb dMH_used_11 (by decide) (fun h21 => ?_) (fun h21 => ?_)
  · replace hR := hR.trans (if_neg h21)
    refine lv_aload_n hx hb dMH_used_20 rfl (lv_at hl 1 rfl) ?_
    refine lv_iload_n hx hb dMH_used_21 rfl (lv_at hl 3 rfl) ?_
    refine mp_i (cx := []) (wr := []) hP hD hS hA [] [] rfl rfl rfl (by decide) (va_runV (As := [.int v]) (rest := []) F (N_MH_low_0 l g _ T s pl hO hU h0 v k_h0 e_c0 e_c1 e_c2 e_c3 e_c4 e_c5 e_c6 e_c7) (cwV 1 hts (wg_app (wg_c kw_1889 (wg_c kw_1891 (wg_c ks_76 (wg_c kw_13 wg_n)))) kw_1892) rfl rfl rfl (by decide +kernel) ⟨by decide, by decide⟩) (pn_W "LatticeKeysModel$Hands" (en_ok g) (ci := 12) (kn := 225) (fl := [(3, 172), (3, 181), (3, 226), (3, 291), (3, 299), (3, 308), (3, 317), (3, 326), (3, 334), (3, 342), (3, 350), (3, 359), (3, 368), (3, 369), (3, 370), (3, 371), (3, 372), (3, 373), (3, 374), (3, 375), (3, 376), (3, 377), (3, 378), (0, 0), (0, 0), (0, 0), (0, 0), (0, 0), (0, 0), (0, 0), (0, 0)]) hK hO k_h0 rfl hP hD hS hA hE [] rfl rfl rfl) rfl rfl hl.1 rfl (lv_room (Nat.le_of_ble_eq_true rfl)) dMH_used_22 ⟨by omega, by omega⟩) (fun r21 u21 H locs hu21 hP hD hS => ?_)
    obtain ⟨q21, pl⟩ := u21
    obtain ⟨⟨eq21, rfl, hFc21, -⟩, hO⟩ := hu21
    have hO : okn g T q21.2 pl := hO
    have hP : va_P g.1 vcl ([] ++ pl) _ := hP
    have hD : va_D _ ([] ++ pl) := hD
    have hFc21 : frm (M_MH_low_0) s q21.2 := hFc21
    replace hR := bnd_step hR eq21
    have hF := frm_tr hF hFc21 (fun k hk => by unfold M_MH_low_0 at hk; unfold M_MH_used_0; omega)
    have hf21 : q21.2.1 225 23 = nI 0 := fc_F e_c0 hFc21 (by unfold M_MH_low_0; omega)
    have hf22 : q21.2.1 225 24 = nI 4 := fc_F e_c1 hFc21 (by unfold M_MH_low_0; omega)
    have hf23 : q21.2.1 225 25 = nI 4 := fc_F e_c2 hFc21 (by unfold M_MH_low_0; omega)
    have hf24 : q21.2.1 225 26 = nI 2 := fc_F e_c3 hFc21 (by unfold M_MH_low_0; omega)
    have hf25 : q21.2.1 225 27 = nI 131072 := fc_F e_c4 hFc21 (by unfold M_MH_low_0; omega)
    have hf26 : q21.2.1 225 28 = nI 95232 := fc_F e_c5 hFc21 (by unfold M_MH_low_0; omega)
    have hf27 : q21.2.1 225 29 = nI 78 := fc_F e_c6 hFc21 (by unfold M_MH_low_0; omega)
    have hf28 : q21.2.1 225 30 = nI 32 := fc_F e_c7 hFc21 (by unfold M_MH_low_0; omega)
    refine W.widen (k := 0) (n := 0) (by omega) (by omega) ?_
    refine lv_if_le (tgt := 40) hx hb dMH_used_25 (by decide) (fun h22 => ?_) (fun h22 => ?_)
    · replace hR := hR.trans (if_pos h22)
      refine lv_aload_n hx hb dMH_used_40 rfl (lv_at hl 1 rfl) ?_
      refine lv_iload_n hx hb dMH_used_41 rfl (lv_at hl 3 rfl) ?_
      refine mp_i (cx := []) (wr := []) hP hD hS hA [] [] rfl rfl rfl (by decide) (va_runV (As := [.int v]) (rest := []) F (N_MH_high_0 l g _ T q21.2 pl hO hU h0 v k_h0 hf21 hf22 hf23 hf24 hf25 hf26 hf27 hf28) (cwV 1 hts (wg_app (wg_c kw_1885 (wg_c kw_1887 (wg_c ks_75 (wg_c kw_13 wg_n)))) kw_1888) rfl rfl rfl (by decide +kernel) ⟨by decide, by decide⟩) (pn_W "LatticeKeysModel$Hands" (en_ok g) (ci := 12) (kn := 225) (fl := [(3, 172), (3, 181), (3, 226), (3, 291), (3, 299), (3, 308), (3, 317), (3, 326), (3, 334), (3, 342), (3, 350), (3, 359), (3, 368), (3, 369), (3, 370), (3, 371), (3, 372), (3, 373), (3, 374), (3, 375), (3, 376), (3, 377), (3, 378), (0, 0), (0, 0), (0, 0), (0, 0), (0, 0), (0, 0), (0, 0), (0, 0)]) hK hO k_h0 rfl hP hD hS hA hE [] rfl rfl rfl) rfl rfl hl.1 rfl (lv_room (Nat.le_of_ble_eq_true rfl)) dMH_used_42 ⟨by omega, by omega⟩) (fun r22 u22 H locs hu22 hP hD hS => ?_)
      obtain ⟨q22, pl⟩ := u22
      obtain ⟨⟨eq22, rfl, hFc22, -⟩, hO⟩ := hu22
      have hO : okn g T q22.2 pl := hO
      have hP : va_P g.1 vcl ([] ++ pl) _ := hP
      have hD : va_D _ ([] ++ pl) := hD
      have hFc22 : frm (M_MH_high_0) q21.2 q22.2 := hFc22
      replace hR := bnd_step hR eq22
      have hF := frm_tr hF hFc22 (fun k hk => by unfold M_MH_high_0 at hk; unfold M_MH_used_0; omega)
      have hf29 : q22.2.1 225 23 = nI 0 := fc_F hf21 hFc22 (by unfold M_MH_high_0; omega)
      have hf30 : q22.2.1 225 24 = nI 4 := fc_F hf22 hFc22 (by unfold M_MH_high_0; omega)
      have hf31 : q22.2.1 225 25 = nI 4 := fc_F hf23 hFc22 (by unfold M_MH_high_0; omega)
      have hf32 : q22.2.1 225 26 = nI 2 := fc_F hf24 hFc22 (by unfold M_MH_high_0; omega)
      have hf33 : q22.2.1 225 27 = nI 131072 := fc_F hf25 hFc22 (by unfold M_MH_high_0; omega)
      have hf34 : q22.2.1 225 28 = nI 95232 := fc_F hf26 hFc22 (by unfold M_MH_high_0; omega)
      have hf35 : q22.2.1 225 29 = nI 78 := fc_F hf27 hFc22 (by unfold M_MH_high_0; omega)
      have hf36 : q22.2.1 225 30 = nI 32 := fc_F hf28 hFc22 (by unfold M_MH_high_0; omega)
      refine W.widen (k := 0) (n := 0) (by omega) (by omega) ?_
      refine lv_iload_n hx hb dMH_used_45 rfl (lv_at hl 0 rfl) ?_
      refine lv_iadd hx hb dMH_used_46 ?_
      refine lv_iconst (v := nI 1) hx hb dMH_used_47 (by decide) ?_
      refine lv_isub hx hb dMH_used_48 ?_
      refine lv_iload_n hx hb dMH_used_49 rfl (lv_at hl 0 rfl) ?_
      refine lv_irem hx hb dMH_used_50 (nI_ne0 (by omega) (by omega)) ?_
      exact mp_iret hx hb hr hlk hP hD hS ((((((q22.1) + (nI 44)) - (nI 1)) - (((q22.1) + (nI 44)) - (nI 1)) / (nI 44) * (nI 44)), q22.2), pl) ⟨⟨hR.symm, rfl, hF, trivial⟩, hO⟩ [] rfl rfl rfl (by omega) (by omega) dMH_used_51
    · replace hR := hR.trans (if_neg h22)
      refine lv_aload_n hx hb dMH_used_28 rfl (lv_at hl 1 rfl) ?_
      refine lv_iload_n hx hb dMH_used_29 rfl (lv_at hl 3 rfl) ?_
      refine mp_i (cx := []) (wr := []) hP hD hS hA [] [] rfl rfl rfl (by decide) (va_runV (As := [.int v]) (rest := []) F (N_MH_high_0 l g _ T q21.2 pl hO hU h0 v k_h0 hf21 hf22 hf23 hf24 hf25 hf26 hf27 hf28) (cwV 1 hts (wg_app (wg_c kw_1885 (wg_c kw_1887 (wg_c ks_75 (wg_c kw_13 wg_n)))) kw_1888) rfl rfl rfl (by decide +kernel) ⟨by decide, by decide⟩) (pn_W "LatticeKeysModel$Hands" (en_ok g) (ci := 12) (kn := 225) (fl := [(3, 172), (3, 181), (3, 226), (3, 291), (3, 299), (3, 308), (3, 317), (3, 326), (3, 334), (3, 342), (3, 350), (3, 359), (3, 368), (3, 369), (3, 370), (3, 371), (3, 372), (3, 373), (3, 374), (3, 375), (3, 376), (3, 377), (3, 378), (0, 0), (0, 0), (0, 0), (0, 0), (0, 0), (0, 0), (0, 0), (0, 0)]) hK hO k_h0 rfl hP hD hS hA hE [] rfl rfl rfl) rfl rfl hl.1 rfl (lv_room (Nat.le_of_ble_eq_true rfl)) dMH_used_30 ⟨by omega, by omega⟩) (fun r23 u23 H locs hu23 hP hD hS => ?_)
      obtain ⟨q23, pl⟩ := u23
      obtain ⟨⟨eq23, rfl, hFc23, -⟩, hO⟩ := hu23
      have hO : okn g T q23.2 pl := hO
      have hP : va_P g.1 vcl ([] ++ pl) _ := hP
      have hD : va_D _ ([] ++ pl) := hD
      have hFc23 : frm (M_MH_high_0) q21.2 q23.2 := hFc23
      replace hR := bnd_step hR eq23
      have hF := frm_tr hF hFc23 (fun k hk => by unfold M_MH_high_0 at hk; unfold M_MH_used_0; omega)
      have hf37 : q23.2.1 225 23 = nI 0 := fc_F hf21 hFc23 (by unfold M_MH_high_0; omega)
      have hf38 : q23.2.1 225 24 = nI 4 := fc_F hf22 hFc23 (by unfold M_MH_high_0; omega)
      have hf39 : q23.2.1 225 25 = nI 4 := fc_F hf23 hFc23 (by unfold M_MH_high_0; omega)
      have hf40 : q23.2.1 225 26 = nI 2 := fc_F hf24 hFc23 (by unfold M_MH_high_0; omega)
      have hf41 : q23.2.1 225 27 = nI 131072 := fc_F hf25 hFc23 (by unfold M_MH_high_0; omega)
      have hf42 : q23.2.1 225 28 = nI 95232 := fc_F hf26 hFc23 (by unfold M_MH_high_0; omega)
      have hf43 : q23.2.1 225 29 = nI 78 := fc_F hf27 hFc23 (by unfold M_MH_high_0; omega)
      have hf44 : q23.2.1 225 30 = nI 32 := fc_F hf28 hFc23 (by unfold M_MH_high_0; omega)
      refine W.widen (k := 0) (n := 0) (by omega) (by omega) ?_
      refine lv_iconst (v := nI 1) hx hb dMH_used_33 (by decide) ?_
      refine lv_iadd hx hb dMH_used_34 ?_
      refine lv_iload_n hx hb dMH_used_35 rfl (lv_at hl 0 rfl) ?_
      refine lv_irem hx hb dMH_used_36 (nI_ne0 (by omega) (by omega)) ?_
      refine lv_goto (tgt := 51) hx hb dMH_used_37 (by decide) ?_
      exact mp_iret hx hb hr hlk hP hD hS (((((q23.1) + (nI 1)) - ((q23.1) + (nI 1)) / (nI 44) * (nI 44)), q23.2), pl) ⟨⟨hR.symm, rfl, hF, trivial⟩, hO⟩ [] rfl rfl rfl (by omega) (by omega) dMH_used_51
  · replace hR := hR.trans (if_pos h21)
    refine lv_aload_n hx hb dMH_used_14 rfl (lv_at hl 1 rfl) ?_
    refine lv_iload_n hx hb dMH_used_15 rfl (lv_at hl 3 rfl) ?_
    refine mp_i (cx := []) (wr := []) hP hD hS hA [] [] rfl rfl rfl (by decide) (va_runV (As := [.int v]) (rest := []) F (N_MH_high_0 l g _ T s pl hO hU h0 v k_h0 e_c0 e_c1 e_c2 e_c3 e_c4 e_c5 e_c6 e_c7) (cwV 1 hts (wg_app (wg_c kw_1885 (wg_c kw_1887 (wg_c ks_75 (wg_c kw_13 wg_n)))) kw_1888) rfl rfl rfl (by decide +kernel) ⟨by decide, by decide⟩) (pn_W "LatticeKeysModel$Hands" (en_ok g) (ci := 12) (kn := 225) (fl := [(3, 172), (3, 181), (3, 226), (3, 291), (3, 299), (3, 308), (3, 317), (3, 326), (3, 334), (3, 342), (3, 350), (3, 359), (3, 368), (3, 369), (3, 370), (3, 371), (3, 372), (3, 373), (3, 374), (3, 375), (3, 376), (3, 377), (3, 378), (0, 0), (0, 0), (0, 0), (0, 0), (0, 0), (0, 0), (0, 0), (0, 0)]) hK hO k_h0 rfl hP hD hS hA hE [] rfl rfl rfl) rfl rfl hl.1 rfl (lv_room (Nat.le_of_ble_eq_true rfl)) dMH_used_16 ⟨by omega, by omega⟩) (fun r24 u24 H locs hu24 hP hD hS => ?_)
    obtain ⟨q24, pl⟩ := u24
    obtain ⟨⟨eq24, rfl, hFc24, -⟩, hO⟩ := hu24
    have hO : okn g T q24.2 pl := hO
    have hP : va_P g.1 vcl ([] ++ pl) _ := hP
    have hD : va_D _ ([] ++ pl) := hD
    have hFc24 : frm (M_MH_high_0) s q24.2 := hFc24
    replace hR := bnd_step hR eq24
    have hF := frm_tr hF hFc24 (fun k hk => by unfold M_MH_high_0 at hk; unfold M_MH_used_0; omega)
    have hf45 : q24.2.1 225 23 = nI 0 := fc_F e_c0 hFc24 (by unfold M_MH_high_0; omega)
    have hf46 : q24.2.1 225 24 = nI 4 := fc_F e_c1 hFc24 (by unfold M_MH_high_0; omega)
    have hf47 : q24.2.1 225 25 = nI 4 := fc_F e_c2 hFc24 (by unfold M_MH_high_0; omega)
    have hf48 : q24.2.1 225 26 = nI 2 := fc_F e_c3 hFc24 (by unfold M_MH_high_0; omega)
    have hf49 : q24.2.1 225 27 = nI 131072 := fc_F e_c4 hFc24 (by unfold M_MH_high_0; omega)
    have hf50 : q24.2.1 225 28 = nI 95232 := fc_F e_c5 hFc24 (by unfold M_MH_high_0; omega)
    have hf51 : q24.2.1 225 29 = nI 78 := fc_F e_c6 hFc24 (by unfold M_MH_high_0; omega)
    have hf52 : q24.2.1 225 30 = nI 32 := fc_F e_c7 hFc24 (by unfold M_MH_high_0; omega)
    refine W.widen (k := 0) (n := 0) (by omega) (by omega) ?_
    exact mp_iret hx hb hr hlk hP hD hS ((q24.1, q24.2), pl) ⟨⟨hR.symm, rfl, hF, trivial⟩, hO⟩ [] rfl rfl rfl (by omega) (by omega) dMH_used_19
def M_MH_used_1 (k : Nat) : Prop := (0 : Nat) = 1
noncomputable def F_MH_used_1 (hh : Int32) (v : Int32) (s : Sto) : Int32 × Sto := bnd ((s.1 225 28).toNatClampNeg) fun z21 => if hh = 0 then bnd (F_MH_high_1 v s) fun q24 => (q24.1, q24.2) else bnd (F_MH_low_1 v s) fun q21 => if (q21.1) ≤ 0 then bnd (F_MH_high_1 v q21.2) fun q22 => (((((q22.1) + (nI 16)) - (nI 1)) - (((q22.1) + (nI 16)) - (nI 1)) / (nI 16) * (nI 16)), q22.2) else bnd (F_MH_high_1 v q21.2) fun q23 => ((((q23.1) + (nI 1)) - ((q23.1) + (nI 1)) / (nI 16) * (nI 16)), q23.2)
set_option maxHeartbeats 8000000 in
set_option maxRecDepth 100000 in
theorem N_MH_used_1 (l : Launch) (g : Gd) (sz : Nat) (T : TyN) (s : Sto) (pl : va_W) (hO : okn g T s pl) (hU : inj T) (h0 : Nat) (hh : Int32) (v : Int32) (k_h0 : T h0 = some 225) (e_c0 : s.1 225 23 = nI 1) (e_c1 : s.1 225 24 = nI 6) (e_c2 : s.1 225 25 = nI 5) (e_c3 : s.1 225 26 = nI 4) (e_c4 : s.1 225 27 = nI 524288) (e_c5 : s.1 225 28 = nI 261888) (e_c6 : s.1 225 29 = nI 196) (e_c7 : s.1 225 30 = nI 48)  : Met l y_MH_used w_MH_used ({ frames := 1, cells := 0, slots := 0, locals := 22 } : Room) (va_Pc [.ref h0, .int hh, .int v] (pr (en g) g.1 vcl sz ([] ++ pl))) (va_Qi (fun (r : Int32) (u : (Int32 × Sto) × va_W) => (u.1 = F_MH_used_1 hh v s ∧ r = u.1.1 ∧ frm (M_MH_used_1) s u.1.2 ∧ True) ∧ okn g T u.1.2 u.2) (po g.1 vcl (va_A ([] ++ pl) sz) (fun (u : (Int32 × Sto) × va_W) => [] ++ u.2)) (va_A ([] ++ pl) sz)) 0 0 (va_A ([] ++ pl) sz) := by
  refine mc_entry (cc := c_MH_used) (maxL := 4) (ret := (some .int)) (by decide) rfl (Nat.le_of_ble_eq_true rfl) ?_
  intro p e s0 m args below meth c ls F hr hlk hnm hsz hP hD hE hA hl
  obtain ⟨hx, hb, hml, hown, hts⟩ := id F
  have hK := hE.1
  generalize va_A ([] ++ pl) sz = A at hD hE hA ⊢
  have hS : va_S A s0.heap s0.heap [] := va_S.rf
  have hl : lv_has ls 4 [(0, .ref h0), (1, .int hh), (2, .int v)] := hl
  have hR : F_MH_used_1 hh v s = F_MH_used_1 hh v s := rfl
  have hF : frm (M_MH_used_1) s s := frm_rf
  refine lv_ldc (v := 8380416) hx hb hown (hts _ (wg_t kw_1884)) dMH_used_0 ?_
  refine mi_as (show (8380416 : Int32) = nI 8380416 by decide) ?_
  refine lv_iconst (v := nI 2) hx hb dMH_used_2 (by decide) ?_
  refine lv_aload_n hx hb dMH_used_3 rfl (lv_at hl 0 rfl) ?_
  refine nw_get (C := "LatticeKeysModel$Hands") (TT := T_MH) (N := 31) hx hb hts (wg_ft i_MH) hown hK hO k_h0 (kn := 225) (ci := 12) (fl := [(3, 172), (3, 181), (3, 226), (3, 291), (3, 299), (3, 308), (3, 317), (3, 326), (3, 334), (3, 342), (3, 350), (3, 359), (3, 368), (3, 369), (3, 370), (3, 371), (3, 372), (3, 373), (3, 374), (3, 375), (3, 376), (3, 377), (3, 378), (0, 0), (0, 0), (0, 0), (0, 0), (0, 0), (0, 0), (0, 0), (0, 0)]) rfl hP rfl 28 (by decide) (hts _ (wg_t kw_1460)) (fun _ h9 => h9) (cd := (0, 0)) rfl dMH_used_4 (fun v21 hv21 => ?_)
  obtain rfl := (show v21 = .int (s.1 225 28) from hv21)
  obtain ⟨z21, ez21, hz21, hz22⟩ := cl_of (b := 2147483648) e_c5 (by omega) (by decide)
  replace hR := bnd_step hR ez21
  refine mi_as hz21 ?_
  subst hz22
  refine mi_imul hx hb dMH_used_7 ?_
  refine mi_as (show nI (2 * 261888) = nI 523776 from rfl) ?_
  refine mi_idiv hx hb dMH_used_8 (by omega) (by omega) (by omega) ?_
  refine mi_as (show nI (8380416 / 523776) = nI 16 from rfl) ?_
  refine lv_istore_n (lv' := [(3, .int (nI 16)), (0, .ref h0), (1, .int hh), (2, .int v)]) hx hb dMH_used_9 rfl hl (by decide) rfl (fun ls hl => ?_)
  refine lv_iload_n hx hb dMH_used_10 rfl (lv_at hl 2 rfl) ?_
  refine lv_if_ne (tgt := 20) hx hb dMH_used_11 (by decide) (fun h21 => ?_) (fun h21 => ?_)
  · replace hR := hR.trans (if_neg h21)
    refine lv_aload_n hx hb dMH_used_20 rfl (lv_at hl 1 rfl) ?_
    refine lv_iload_n hx hb dMH_used_21 rfl (lv_at hl 3 rfl) ?_
    refine mp_i (cx := []) (wr := []) hP hD hS hA [] [] rfl rfl rfl (by decide) (va_runV (As := [.int v]) (rest := []) F (N_MH_low_1 l g _ T s pl hO hU h0 v k_h0 e_c0 e_c1 e_c2 e_c3 e_c4 e_c5 e_c6 e_c7) (cwV 1 hts (wg_app (wg_c kw_1889 (wg_c kw_1891 (wg_c ks_76 (wg_c kw_13 wg_n)))) kw_1892) rfl rfl rfl (by decide +kernel) ⟨by decide, by decide⟩) (pn_W "LatticeKeysModel$Hands" (en_ok g) (ci := 12) (kn := 225) (fl := [(3, 172), (3, 181), (3, 226), (3, 291), (3, 299), (3, 308), (3, 317), (3, 326), (3, 334), (3, 342), (3, 350), (3, 359), (3, 368), (3, 369), (3, 370), (3, 371), (3, 372), (3, 373), (3, 374), (3, 375), (3, 376), (3, 377), (3, 378), (0, 0), (0, 0), (0, 0), (0, 0), (0, 0), (0, 0), (0, 0), (0, 0)]) hK hO k_h0 rfl hP hD hS hA hE [] rfl rfl rfl) rfl rfl hl.1 rfl (lv_room (Nat.le_of_ble_eq_true rfl)) dMH_used_22 ⟨by omega, by omega⟩) (fun r21 u21 H locs hu21 hP hD hS => ?_)
    obtain ⟨q21, pl⟩ := u21
    obtain ⟨⟨eq21, rfl, hFc21, -⟩, hO⟩ := hu21
    have hO : okn g T q21.2 pl := hO
    have hP : va_P g.1 vcl ([] ++ pl) _ := hP
    have hD : va_D _ ([] ++ pl) := hD
    have hFc21 : frm (M_MH_low_1) s q21.2 := hFc21
    replace hR := bnd_step hR eq21
    have hF := frm_tr hF hFc21 (fun k hk => by unfold M_MH_low_1 at hk; unfold M_MH_used_1; omega)
    have hf21 : q21.2.1 225 23 = nI 1 := fc_F e_c0 hFc21 (by unfold M_MH_low_1; omega)
    have hf22 : q21.2.1 225 24 = nI 6 := fc_F e_c1 hFc21 (by unfold M_MH_low_1; omega)
    have hf23 : q21.2.1 225 25 = nI 5 := fc_F e_c2 hFc21 (by unfold M_MH_low_1; omega)
    have hf24 : q21.2.1 225 26 = nI 4 := fc_F e_c3 hFc21 (by unfold M_MH_low_1; omega)
    have hf25 : q21.2.1 225 27 = nI 524288 := fc_F e_c4 hFc21 (by unfold M_MH_low_1; omega)
    have hf26 : q21.2.1 225 28 = nI 261888 := fc_F e_c5 hFc21 (by unfold M_MH_low_1; omega)
    have hf27 : q21.2.1 225 29 = nI 196 := fc_F e_c6 hFc21 (by unfold M_MH_low_1; omega)
    have hf28 : q21.2.1 225 30 = nI 48 := fc_F e_c7 hFc21 (by unfold M_MH_low_1; omega)
    refine W.widen (k := 0) (n := 0) (by omega) (by omega) ?_
    refine lv_if_le (tgt := 40) hx hb dMH_used_25 (by decide) (fun h22 => ?_) (fun h22 => ?_)
    · replace hR := hR.trans (if_pos h22)
      refine lv_aload_n hx hb dMH_used_40 rfl (lv_at hl 1 rfl) ?_
      refine lv_iload_n hx hb dMH_used_41 rfl (lv_at hl 3 rfl) ?_
      refine mp_i (cx := []) (wr := []) hP hD hS hA [] [] rfl rfl rfl (by decide) (va_runV (As := [.int v]) (rest := []) F (N_MH_high_1 l g _ T q21.2 pl hO hU h0 v k_h0 hf21 hf22 hf23 hf24 hf25 hf26 hf27 hf28) (cwV 1 hts (wg_app (wg_c kw_1885 (wg_c kw_1887 (wg_c ks_75 (wg_c kw_13 wg_n)))) kw_1888) rfl rfl rfl (by decide +kernel) ⟨by decide, by decide⟩) (pn_W "LatticeKeysModel$Hands" (en_ok g) (ci := 12) (kn := 225) (fl := [(3, 172), (3, 181), (3, 226), (3, 291), (3, 299), (3, 308), (3, 317), (3, 326), (3, 334), (3, 342), (3, 350), (3, 359), (3, 368), (3, 369), (3, 370), (3, 371), (3, 372), (3, 373), (3, 374), (3, 375), (3, 376), (3, 377), (3, 378), (0, 0), (0, 0), (0, 0), (0, 0), (0, 0), (0, 0), (0, 0), (0, 0)]) hK hO k_h0 rfl hP hD hS hA hE [] rfl rfl rfl) rfl rfl hl.1 rfl (lv_room (Nat.le_of_ble_eq_true rfl)) dMH_used_42 ⟨by omega, by omega⟩) (fun r22 u22 H locs hu22 hP hD hS => ?_)
      obtain ⟨q22, pl⟩ := u22
      obtain ⟨⟨eq22, rfl, hFc22, -⟩, hO⟩ := hu22
      have hO : okn g T q22.2 pl := hO
      have hP : va_P g.1 vcl ([] ++ pl) _ := hP
      have hD : va_D _ ([] ++ pl) := hD
      have hFc22 : frm (M_MH_high_1) q21.2 q22.2 := hFc22
      replace hR := bnd_step hR eq22
      have hF := frm_tr hF hFc22 (fun k hk => by unfold M_MH_high_1 at hk; unfold M_MH_used_1; omega)
      have hf29 : q22.2.1 225 23 = nI 1 := fc_F hf21 hFc22 (by unfold M_MH_high_1; omega)
      have hf30 : q22.2.1 225 24 = nI 6 := fc_F hf22 hFc22 (by unfold M_MH_high_1; omega)
      have hf31 : q22.2.1 225 25 = nI 5 := fc_F hf23 hFc22 (by unfold M_MH_high_1; omega)
      have hf32 : q22.2.1 225 26 = nI 4 := fc_F hf24 hFc22 (by unfold M_MH_high_1; omega)
      have hf33 : q22.2.1 225 27 = nI 524288 := fc_F hf25 hFc22 (by unfold M_MH_high_1; omega)
      have hf34 : q22.2.1 225 28 = nI 261888 := fc_F hf26 hFc22 (by unfold M_MH_high_1; omega)
      have hf35 : q22.2.1 225 29 = nI 196 := fc_F hf27 hFc22 (by unfold M_MH_high_1; omega)
      have hf36 : q22.2.1 225 30 = nI 48 := fc_F hf28 hFc22 (by unfold M_MH_high_1; omega)
      refine W.widen (k := 0) (n := 0) (by omega) (by omega) ?_
      refine lv_iload_n hx hb dMH_used_45 rfl (lv_at hl 0 rfl) ?_
      refine lv_iadd hx hb dMH_used_46 ?_
      refine lv_iconst (v := nI 1) hx hb dMH_used_47 (by decide) ?_
      refine lv_isub hx hb dMH_used_48 ?_
      refine lv_iload_n hx hb dMH_used_49 rfl (lv_at hl 0 rfl) ?_
      refine lv_irem hx hb dMH_used_50 (nI_ne0 (by omega) (by omega)) ?_
      exact mp_iret hx hb hr hlk hP hD hS ((((((q22.1) + (nI 16)) - (nI 1)) - (((q22.1) + (nI 16)) - (nI 1)) / (nI 16) * (nI 16)), q22.2), pl) ⟨⟨hR.symm, rfl, hF, trivial⟩, hO⟩ [] rfl rfl rfl (by omega) (by omega) dMH_used_51
    · replace hR := hR.trans (if_neg h22)
      refine lv_aload_n hx hb dMH_used_28 rfl (lv_at hl 1 rfl) ?_
      refine lv_iload_n hx hb dMH_used_29 rfl (lv_at hl 3 rfl) ?_
      refine mp_i (cx := []) (wr := []) hP hD hS hA [] [] rfl rfl rfl (by decide) (va_runV (As := [.int v]) (rest := []) F (N_MH_high_1 l g _ T q21.2 pl hO hU h0 v k_h0 hf21 hf22 hf23 hf24 hf25 hf26 hf27 hf28) (cwV 1 hts (wg_app (wg_c kw_1885 (wg_c kw_1887 (wg_c ks_75 (wg_c kw_13 wg_n)))) kw_1888) rfl rfl rfl (by decide +kernel) ⟨by decide, by decide⟩) (pn_W "LatticeKeysModel$Hands" (en_ok g) (ci := 12) (kn := 225) (fl := [(3, 172), (3, 181), (3, 226), (3, 291), (3, 299), (3, 308), (3, 317), (3, 326), (3, 334), (3, 342), (3, 350), (3, 359), (3, 368), (3, 369), (3, 370), (3, 371), (3, 372), (3, 373), (3, 374), (3, 375), (3, 376), (3, 377), (3, 378), (0, 0), (0, 0), (0, 0), (0, 0), (0, 0), (0, 0), (0, 0), (0, 0)]) hK hO k_h0 rfl hP hD hS hA hE [] rfl rfl rfl) rfl rfl hl.1 rfl (lv_room (Nat.le_of_ble_eq_true rfl)) dMH_used_30 ⟨by omega, by omega⟩) (fun r23 u23 H locs hu23 hP hD hS => ?_)
      obtain ⟨q23, pl⟩ := u23
      obtain ⟨⟨eq23, rfl, hFc23, -⟩, hO⟩ := hu23
      have hO : okn g T q23.2 pl := hO
      have hP : va_P g.1 vcl ([] ++ pl) _ := hP
      have hD : va_D _ ([] ++ pl) := hD
      have hFc23 : frm (M_MH_high_1) q21.2 q23.2 := hFc23
      replace hR := bnd_step hR eq23
      have hF := frm_tr hF hFc23 (fun k hk => by unfold M_MH_high_1 at hk; unfold M_MH_used_1; omega)
      have hf37 : q23.2.1 225 23 = nI 1 := fc_F hf21 hFc23 (by unfold M_MH_high_1; omega)
      have hf38 : q23.2.1 225 24 = nI 6 := fc_F hf22 hFc23 (by unfold M_MH_high_1; omega)
      have hf39 : q23.2.1 225 25 = nI 5 := fc_F hf23 hFc23 (by unfold M_MH_high_1; omega)
      have hf40 : q23.2.1 225 26 = nI 4 := fc_F hf24 hFc23 (by unfold M_MH_high_1; omega)
      have hf41 : q23.2.1 225 27 = nI 524288 := fc_F hf25 hFc23 (by unfold M_MH_high_1; omega)
      have hf42 : q23.2.1 225 28 = nI 261888 := fc_F hf26 hFc23 (by unfold M_MH_high_1; omega)
      have hf43 : q23.2.1 225 29 = nI 196 := fc_F hf27 hFc23 (by unfold M_MH_high_1; omega)
      have hf44 : q23.2.1 225 30 = nI 48 := fc_F hf28 hFc23 (by unfold M_MH_high_1; omega)
      refine W.widen (k := 0) (n := 0) (by omega) (by omega) ?_
      refine lv_iconst (v := nI 1) hx hb dMH_used_33 (by decide) ?_
      refine lv_iadd hx hb dMH_used_34 ?_
      refine lv_iload_n hx hb dMH_used_35 rfl (lv_at hl 0 rfl) ?_
      refine lv_irem hx hb dMH_used_36 (nI_ne0 (by omega) (by omega)) ?_
      refine lv_goto (tgt := 51) hx hb dMH_used_37 (by decide) ?_
      exact mp_iret hx hb hr hlk hP hD hS (((((q23.1) + (nI 1)) - ((q23.1) + (nI 1)) / (nI 16) * (nI 16)), q23.2), pl) ⟨⟨hR.symm, rfl, hF, trivial⟩, hO⟩ [] rfl rfl rfl (by omega) (by omega) dMH_used_51
  · replace hR := hR.trans (if_pos h21)
    refine lv_aload_n hx hb dMH_used_14 rfl (lv_at hl 1 rfl) ?_
    refine lv_iload_n hx hb dMH_used_15 rfl (lv_at hl 3 rfl) ?_
    refine mp_i (cx := []) (wr := []) hP hD hS hA [] [] rfl rfl rfl (by decide) (va_runV (As := [.int v]) (rest := []) F (N_MH_high_1 l g _ T s pl hO hU h0 v k_h0 e_c0 e_c1 e_c2 e_c3 e_c4 e_c5 e_c6 e_c7) (cwV 1 hts (wg_app (wg_c kw_1885 (wg_c kw_1887 (wg_c ks_75 (wg_c kw_13 wg_n)))) kw_1888) rfl rfl rfl (by decide +kernel) ⟨by decide, by decide⟩) (pn_W "LatticeKeysModel$Hands" (en_ok g) (ci := 12) (kn := 225) (fl := [(3, 172), (3, 181), (3, 226), (3, 291), (3, 299), (3, 308), (3, 317), (3, 326), (3, 334), (3, 342), (3, 350), (3, 359), (3, 368), (3, 369), (3, 370), (3, 371), (3, 372), (3, 373), (3, 374), (3, 375), (3, 376), (3, 377), (3, 378), (0, 0), (0, 0), (0, 0), (0, 0), (0, 0), (0, 0), (0, 0), (0, 0)]) hK hO k_h0 rfl hP hD hS hA hE [] rfl rfl rfl) rfl rfl hl.1 rfl (lv_room (Nat.le_of_ble_eq_true rfl)) dMH_used_16 ⟨by omega, by omega⟩) (fun r24 u24 H locs hu24 hP hD hS => ?_)
    obtain ⟨q24, pl⟩ := u24
    obtain ⟨⟨eq24, rfl, hFc24, -⟩, hO⟩ := hu24
    have hO : okn g T q24.2 pl := hO
    have hP : va_P g.1 vcl ([] ++ pl) _ := hP
    have hD : va_D _ ([] ++ pl) := hD
    have hFc24 : frm (M_MH_high_1) s q24.2 := hFc24
    replace hR := bnd_step hR eq24
    have hF := frm_tr hF hFc24 (fun k hk => by unfold M_MH_high_1 at hk; unfold M_MH_used_1; omega)
    have hf45 : q24.2.1 225 23 = nI 1 := fc_F e_c0 hFc24 (by unfold M_MH_high_1; omega)
    have hf46 : q24.2.1 225 24 = nI 6 := fc_F e_c1 hFc24 (by unfold M_MH_high_1; omega)
    have hf47 : q24.2.1 225 25 = nI 5 := fc_F e_c2 hFc24 (by unfold M_MH_high_1; omega)
    have hf48 : q24.2.1 225 26 = nI 4 := fc_F e_c3 hFc24 (by unfold M_MH_high_1; omega)
    have hf49 : q24.2.1 225 27 = nI 524288 := fc_F e_c4 hFc24 (by unfold M_MH_high_1; omega)
    have hf50 : q24.2.1 225 28 = nI 261888 := fc_F e_c5 hFc24 (by unfold M_MH_high_1; omega)
    have hf51 : q24.2.1 225 29 = nI 196 := fc_F e_c6 hFc24 (by unfold M_MH_high_1; omega)
    have hf52 : q24.2.1 225 30 = nI 48 := fc_F e_c7 hFc24 (by unfold M_MH_high_1; omega)
    refine W.widen (k := 0) (n := 0) (by omega) (by omega) ?_
    exact mp_iret hx hb hr hlk hP hD hS ((q24.1, q24.2), pl) ⟨⟨hR.symm, rfl, hF, trivial⟩, hO⟩ [] rfl rfl rfl (by omega) (by omega) dMH_used_19
def M_MH_used_2 (k : Nat) : Prop := (0 : Nat) = 1
noncomputable def F_MH_used_2 (hh : Int32) (v : Int32) (s : Sto) : Int32 × Sto := bnd ((s.1 225 28).toNatClampNeg) fun z21 => if hh = 0 then bnd (F_MH_high_2 v s) fun q24 => (q24.1, q24.2) else bnd (F_MH_low_2 v s) fun q21 => if (q21.1) ≤ 0 then bnd (F_MH_high_2 v q21.2) fun q22 => (((((q22.1) + (nI 16)) - (nI 1)) - (((q22.1) + (nI 16)) - (nI 1)) / (nI 16) * (nI 16)), q22.2) else bnd (F_MH_high_2 v q21.2) fun q23 => ((((q23.1) + (nI 1)) - ((q23.1) + (nI 1)) / (nI 16) * (nI 16)), q23.2)
set_option maxHeartbeats 8000000 in
set_option maxRecDepth 100000 in
theorem N_MH_used_2 (l : Launch) (g : Gd) (sz : Nat) (T : TyN) (s : Sto) (pl : va_W) (hO : okn g T s pl) (hU : inj T) (h0 : Nat) (hh : Int32) (v : Int32) (k_h0 : T h0 = some 225) (e_c0 : s.1 225 23 = nI 2) (e_c1 : s.1 225 24 = nI 8) (e_c2 : s.1 225 25 = nI 7) (e_c3 : s.1 225 26 = nI 2) (e_c4 : s.1 225 27 = nI 524288) (e_c5 : s.1 225 28 = nI 261888) (e_c6 : s.1 225 29 = nI 120) (e_c7 : s.1 225 30 = nI 64)  : Met l y_MH_used w_MH_used ({ frames := 1, cells := 0, slots := 0, locals := 22 } : Room) (va_Pc [.ref h0, .int hh, .int v] (pr (en g) g.1 vcl sz ([] ++ pl))) (va_Qi (fun (r : Int32) (u : (Int32 × Sto) × va_W) => (u.1 = F_MH_used_2 hh v s ∧ r = u.1.1 ∧ frm (M_MH_used_2) s u.1.2 ∧ True) ∧ okn g T u.1.2 u.2) (po g.1 vcl (va_A ([] ++ pl) sz) (fun (u : (Int32 × Sto) × va_W) => [] ++ u.2)) (va_A ([] ++ pl) sz)) 0 0 (va_A ([] ++ pl) sz) := by
  refine mc_entry (cc := c_MH_used) (maxL := 4) (ret := (some .int)) (by decide) rfl (Nat.le_of_ble_eq_true rfl) ?_
  intro p e s0 m args below meth c ls F hr hlk hnm hsz hP hD hE hA hl
  obtain ⟨hx, hb, hml, hown, hts⟩ := id F
  have hK := hE.1
  generalize va_A ([] ++ pl) sz = A at hD hE hA ⊢
  have hS : va_S A s0.heap s0.heap [] := va_S.rf
  have hl : lv_has ls 4 [(0, .ref h0), (1, .int hh), (2, .int v)] := hl
  have hR : F_MH_used_2 hh v s = F_MH_used_2 hh v s := rfl
  have hF : frm (M_MH_used_2) s s := frm_rf
  refine lv_ldc (v := 8380416) hx hb hown (hts _ (wg_t kw_1884)) dMH_used_0 ?_
  refine mi_as (show (8380416 : Int32) = nI 8380416 by decide) ?_
  refine lv_iconst (v := nI 2) hx hb dMH_used_2 (by decide) ?_
  refine lv_aload_n hx hb dMH_used_3 rfl (lv_at hl 0 rfl) ?_
  refine nw_get (C := "LatticeKeysModel$Hands") (TT := T_MH) (N := 31) hx hb hts (wg_ft i_MH) hown hK hO k_h0 (kn := 225) (ci := 12) (fl := [(3, 172), (3, 181), (3, 226), (3, 291), (3, 299), (3, 308), (3, 317), (3, 326), (3, 334), (3, 342), (3, 350), (3, 359), (3, 368), (3, 369), (3, 370), (3, 371), (3, 372), (3, 373), (3, 374), (3, 375), (3, 376), (3, 377), (3, 378), (0, 0), (0, 0), (0, 0), (0, 0), (0, 0), (0, 0), (0, 0), (0, 0)]) rfl hP rfl 28 (by decide) (hts _ (wg_t kw_1460)) (fun _ h9 => h9) (cd := (0, 0)) rfl dMH_used_4 (fun v21 hv21 => ?_)
  obtain rfl := (show v21 = .int (s.1 225 28) from hv21)
  obtain ⟨z21, ez21, hz21, hz22⟩ := cl_of (b := 2147483648) e_c5 (by omega) (by decide)
  replace hR := bnd_step hR ez21
  refine mi_as hz21 ?_
  subst hz22
  refine mi_imul hx hb dMH_used_7 ?_
  refine mi_as (show nI (2 * 261888) = nI 523776 from rfl) ?_
  refine mi_idiv hx hb dMH_used_8 (by omega) (by omega) (by omega) ?_
  refine mi_as (show nI (8380416 / 523776) = nI 16 from rfl) ?_
  refine lv_istore_n (lv' := [(3, .int (nI 16)), (0, .ref h0), (1, .int hh), (2, .int v)]) hx hb dMH_used_9 rfl hl (by decide) rfl (fun ls hl => ?_)
  refine lv_iload_n hx hb dMH_used_10 rfl (lv_at hl 2 rfl) ?_
  refine lv_if_ne (tgt := 20) hx hb dMH_used_11 (by decide) (fun h21 => ?_) (fun h21 => ?_)
  · replace hR := hR.trans (if_neg h21)
    refine lv_aload_n hx hb dMH_used_20 rfl (lv_at hl 1 rfl) ?_
    refine lv_iload_n hx hb dMH_used_21 rfl (lv_at hl 3 rfl) ?_
    refine mp_i (cx := []) (wr := []) hP hD hS hA [] [] rfl rfl rfl (by decide) (va_runV (As := [.int v]) (rest := []) F (N_MH_low_2 l g _ T s pl hO hU h0 v k_h0 e_c0 e_c1 e_c2 e_c3 e_c4 e_c5 e_c6 e_c7) (cwV 1 hts (wg_app (wg_c kw_1889 (wg_c kw_1891 (wg_c ks_76 (wg_c kw_13 wg_n)))) kw_1892) rfl rfl rfl (by decide +kernel) ⟨by decide, by decide⟩) (pn_W "LatticeKeysModel$Hands" (en_ok g) (ci := 12) (kn := 225) (fl := [(3, 172), (3, 181), (3, 226), (3, 291), (3, 299), (3, 308), (3, 317), (3, 326), (3, 334), (3, 342), (3, 350), (3, 359), (3, 368), (3, 369), (3, 370), (3, 371), (3, 372), (3, 373), (3, 374), (3, 375), (3, 376), (3, 377), (3, 378), (0, 0), (0, 0), (0, 0), (0, 0), (0, 0), (0, 0), (0, 0), (0, 0)]) hK hO k_h0 rfl hP hD hS hA hE [] rfl rfl rfl) rfl rfl hl.1 rfl (lv_room (Nat.le_of_ble_eq_true rfl)) dMH_used_22 ⟨by omega, by omega⟩) (fun r21 u21 H locs hu21 hP hD hS => ?_)
    obtain ⟨q21, pl⟩ := u21
    obtain ⟨⟨eq21, rfl, hFc21, -⟩, hO⟩ := hu21
    have hO : okn g T q21.2 pl := hO
    have hP : va_P g.1 vcl ([] ++ pl) _ := hP
    have hD : va_D _ ([] ++ pl) := hD
    have hFc21 : frm (M_MH_low_2) s q21.2 := hFc21
    replace hR := bnd_step hR eq21
    have hF := frm_tr hF hFc21 (fun k hk => by unfold M_MH_low_2 at hk; unfold M_MH_used_2; omega)
    have hf21 : q21.2.1 225 23 = nI 2 := fc_F e_c0 hFc21 (by unfold M_MH_low_2; omega)
    have hf22 : q21.2.1 225 24 = nI 8 := fc_F e_c1 hFc21 (by unfold M_MH_low_2; omega)
    have hf23 : q21.2.1 225 25 = nI 7 := fc_F e_c2 hFc21 (by unfold M_MH_low_2; omega)
    have hf24 : q21.2.1 225 26 = nI 2 := fc_F e_c3 hFc21 (by unfold M_MH_low_2; omega)
    have hf25 : q21.2.1 225 27 = nI 524288 := fc_F e_c4 hFc21 (by unfold M_MH_low_2; omega)
    have hf26 : q21.2.1 225 28 = nI 261888 := fc_F e_c5 hFc21 (by unfold M_MH_low_2; omega)
    have hf27 : q21.2.1 225 29 = nI 120 := fc_F e_c6 hFc21 (by unfold M_MH_low_2; omega)
    have hf28 : q21.2.1 225 30 = nI 64 := fc_F e_c7 hFc21 (by unfold M_MH_low_2; omega)
    refine W.widen (k := 0) (n := 0) (by omega) (by omega) ?_
    refine lv_if_le (tgt := 40) hx hb dMH_used_25 (by decide) (fun h22 => ?_) (fun h22 => ?_)
    · replace hR := hR.trans (if_pos h22)
      refine lv_aload_n hx hb dMH_used_40 rfl (lv_at hl 1 rfl) ?_
      refine lv_iload_n hx hb dMH_used_41 rfl (lv_at hl 3 rfl) ?_
      refine mp_i (cx := []) (wr := []) hP hD hS hA [] [] rfl rfl rfl (by decide) (va_runV (As := [.int v]) (rest := []) F (N_MH_high_2 l g _ T q21.2 pl hO hU h0 v k_h0 hf21 hf22 hf23 hf24 hf25 hf26 hf27 hf28) (cwV 1 hts (wg_app (wg_c kw_1885 (wg_c kw_1887 (wg_c ks_75 (wg_c kw_13 wg_n)))) kw_1888) rfl rfl rfl (by decide +kernel) ⟨by decide, by decide⟩) (pn_W "LatticeKeysModel$Hands" (en_ok g) (ci := 12) (kn := 225) (fl := [(3, 172), (3, 181), (3, 226), (3, 291), (3, 299), (3, 308), (3, 317), (3, 326), (3, 334), (3, 342), (3, 350), (3, 359), (3, 368), (3, 369), (3, 370), (3, 371), (3, 372), (3, 373), (3, 374), (3, 375), (3, 376), (3, 377), (3, 378), (0, 0), (0, 0), (0, 0), (0, 0), (0, 0), (0, 0), (0, 0), (0, 0)]) hK hO k_h0 rfl hP hD hS hA hE [] rfl rfl rfl) rfl rfl hl.1 rfl (lv_room (Nat.le_of_ble_eq_true rfl)) dMH_used_42 ⟨by omega, by omega⟩) (fun r22 u22 H locs hu22 hP hD hS => ?_)
      obtain ⟨q22, pl⟩ := u22
      obtain ⟨⟨eq22, rfl, hFc22, -⟩, hO⟩ := hu22
      have hO : okn g T q22.2 pl := hO
      have hP : va_P g.1 vcl ([] ++ pl) _ := hP
      have hD : va_D _ ([] ++ pl) := hD
      have hFc22 : frm (M_MH_high_2) q21.2 q22.2 := hFc22
      replace hR := bnd_step hR eq22
      have hF := frm_tr hF hFc22 (fun k hk => by unfold M_MH_high_2 at hk; unfold M_MH_used_2; omega)
      have hf29 : q22.2.1 225 23 = nI 2 := fc_F hf21 hFc22 (by unfold M_MH_high_2; omega)
      have hf30 : q22.2.1 225 24 = nI 8 := fc_F hf22 hFc22 (by unfold M_MH_high_2; omega)
      have hf31 : q22.2.1 225 25 = nI 7 := fc_F hf23 hFc22 (by unfold M_MH_high_2; omega)
      have hf32 : q22.2.1 225 26 = nI 2 := fc_F hf24 hFc22 (by unfold M_MH_high_2; omega)
      have hf33 : q22.2.1 225 27 = nI 524288 := fc_F hf25 hFc22 (by unfold M_MH_high_2; omega)
      have hf34 : q22.2.1 225 28 = nI 261888 := fc_F hf26 hFc22 (by unfold M_MH_high_2; omega)
      have hf35 : q22.2.1 225 29 = nI 120 := fc_F hf27 hFc22 (by unfold M_MH_high_2; omega)
      have hf36 : q22.2.1 225 30 = nI 64 := fc_F hf28 hFc22 (by unfold M_MH_high_2; omega)
      refine W.widen (k := 0) (n := 0) (by omega) (by omega) ?_
      refine lv_iload_n hx hb dMH_used_45 rfl (lv_at hl 0 rfl) ?_
      refine lv_iadd hx hb dMH_used_46 ?_
      refine lv_iconst (v := nI 1) hx hb dMH_used_47 (by decide) ?_
      refine lv_isub hx hb dMH_used_48 ?_
      refine lv_iload_n hx hb dMH_used_49 rfl (lv_at hl 0 rfl) ?_
      refine lv_irem hx hb dMH_used_50 (nI_ne0 (by omega) (by omega)) ?_
      exact mp_iret hx hb hr hlk hP hD hS ((((((q22.1) + (nI 16)) - (nI 1)) - (((q22.1) + (nI 16)) - (nI 1)) / (nI 16) * (nI 16)), q22.2), pl) ⟨⟨hR.symm, rfl, hF, trivial⟩, hO⟩ [] rfl rfl rfl (by omega) (by omega) dMH_used_51
    · replace hR := hR.trans (if_neg h22)
      refine lv_aload_n hx hb dMH_used_28 rfl (lv_at hl 1 rfl) ?_
      refine lv_iload_n hx hb dMH_used_29 rfl (lv_at hl 3 rfl) ?_
      refine mp_i (cx := []) (wr := []) hP hD hS hA [] [] rfl rfl rfl (by decide) (va_runV (As := [.int v]) (rest := []) F (N_MH_high_2 l g _ T q21.2 pl hO hU h0 v k_h0 hf21 hf22 hf23 hf24 hf25 hf26 hf27 hf28) (cwV 1 hts (wg_app (wg_c kw_1885 (wg_c kw_1887 (wg_c ks_75 (wg_c kw_13 wg_n)))) kw_1888) rfl rfl rfl (by decide +kernel) ⟨by decide, by decide⟩) (pn_W "LatticeKeysModel$Hands" (en_ok g) (ci := 12) (kn := 225) (fl := [(3, 172), (3, 181), (3, 226), (3, 291), (3, 299), (3, 308), (3, 317), (3, 326), (3, 334), (3, 342), (3, 350), (3, 359), (3, 368), (3, 369), (3, 370), (3, 371), (3, 372), (3, 373), (3, 374), (3, 375), (3, 376), (3, 377), (3, 378), (0, 0), (0, 0), (0, 0), (0, 0), (0, 0), (0, 0), (0, 0), (0, 0)]) hK hO k_h0 rfl hP hD hS hA hE [] rfl rfl rfl) rfl rfl hl.1 rfl (lv_room (Nat.le_of_ble_eq_true rfl)) dMH_used_30 ⟨by omega, by omega⟩) (fun r23 u23 H locs hu23 hP hD hS => ?_)
      obtain ⟨q23, pl⟩ := u23
      obtain ⟨⟨eq23, rfl, hFc23, -⟩, hO⟩ := hu23
      have hO : okn g T q23.2 pl := hO
      have hP : va_P g.1 vcl ([] ++ pl) _ := hP
      have hD : va_D _ ([] ++ pl) := hD
      have hFc23 : frm (M_MH_high_2) q21.2 q23.2 := hFc23
      replace hR := bnd_step hR eq23
      have hF := frm_tr hF hFc23 (fun k hk => by unfold M_MH_high_2 at hk; unfold M_MH_used_2; omega)
      have hf37 : q23.2.1 225 23 = nI 2 := fc_F hf21 hFc23 (by unfold M_MH_high_2; omega)
      have hf38 : q23.2.1 225 24 = nI 8 := fc_F hf22 hFc23 (by unfold M_MH_high_2; omega)
      have hf39 : q23.2.1 225 25 = nI 7 := fc_F hf23 hFc23 (by unfold M_MH_high_2; omega)
      have hf40 : q23.2.1 225 26 = nI 2 := fc_F hf24 hFc23 (by unfold M_MH_high_2; omega)
      have hf41 : q23.2.1 225 27 = nI 524288 := fc_F hf25 hFc23 (by unfold M_MH_high_2; omega)
      have hf42 : q23.2.1 225 28 = nI 261888 := fc_F hf26 hFc23 (by unfold M_MH_high_2; omega)
      have hf43 : q23.2.1 225 29 = nI 120 := fc_F hf27 hFc23 (by unfold M_MH_high_2; omega)
      have hf44 : q23.2.1 225 30 = nI 64 := fc_F hf28 hFc23 (by unfold M_MH_high_2; omega)
      refine W.widen (k := 0) (n := 0) (by omega) (by omega) ?_
      refine lv_iconst (v := nI 1) hx hb dMH_used_33 (by decide) ?_
      refine lv_iadd hx hb dMH_used_34 ?_
      refine lv_iload_n hx hb dMH_used_35 rfl (lv_at hl 0 rfl) ?_
      refine lv_irem hx hb dMH_used_36 (nI_ne0 (by omega) (by omega)) ?_
      refine lv_goto (tgt := 51) hx hb dMH_used_37 (by decide) ?_
      exact mp_iret hx hb hr hlk hP hD hS (((((q23.1) + (nI 1)) - ((q23.1) + (nI 1)) / (nI 16) * (nI 16)), q23.2), pl) ⟨⟨hR.symm, rfl, hF, trivial⟩, hO⟩ [] rfl rfl rfl (by omega) (by omega) dMH_used_51
  · replace hR := hR.trans (if_pos h21)
    refine lv_aload_n hx hb dMH_used_14 rfl (lv_at hl 1 rfl) ?_
    refine lv_iload_n hx hb dMH_used_15 rfl (lv_at hl 3 rfl) ?_
    refine mp_i (cx := []) (wr := []) hP hD hS hA [] [] rfl rfl rfl (by decide) (va_runV (As := [.int v]) (rest := []) F (N_MH_high_2 l g _ T s pl hO hU h0 v k_h0 e_c0 e_c1 e_c2 e_c3 e_c4 e_c5 e_c6 e_c7) (cwV 1 hts (wg_app (wg_c kw_1885 (wg_c kw_1887 (wg_c ks_75 (wg_c kw_13 wg_n)))) kw_1888) rfl rfl rfl (by decide +kernel) ⟨by decide, by decide⟩) (pn_W "LatticeKeysModel$Hands" (en_ok g) (ci := 12) (kn := 225) (fl := [(3, 172), (3, 181), (3, 226), (3, 291), (3, 299), (3, 308), (3, 317), (3, 326), (3, 334), (3, 342), (3, 350), (3, 359), (3, 368), (3, 369), (3, 370), (3, 371), (3, 372), (3, 373), (3, 374), (3, 375), (3, 376), (3, 377), (3, 378), (0, 0), (0, 0), (0, 0), (0, 0), (0, 0), (0, 0), (0, 0), (0, 0)]) hK hO k_h0 rfl hP hD hS hA hE [] rfl rfl rfl) rfl rfl hl.1 rfl (lv_room (Nat.le_of_ble_eq_true rfl)) dMH_used_16 ⟨by omega, by omega⟩) (fun r24 u24 H locs hu24 hP hD hS => ?_)
    obtain ⟨q24, pl⟩ := u24
    obtain ⟨⟨eq24, rfl, hFc24, -⟩, hO⟩ := hu24
    have hO : okn g T q24.2 pl := hO
    have hP : va_P g.1 vcl ([] ++ pl) _ := hP
    have hD : va_D _ ([] ++ pl) := hD
    have hFc24 : frm (M_MH_high_2) s q24.2 := hFc24
    replace hR := bnd_step hR eq24
    have hF := frm_tr hF hFc24 (fun k hk => by unfold M_MH_high_2 at hk; unfold M_MH_used_2; omega)
    have hf45 : q24.2.1 225 23 = nI 2 := fc_F e_c0 hFc24 (by unfold M_MH_high_2; omega)
    have hf46 : q24.2.1 225 24 = nI 8 := fc_F e_c1 hFc24 (by unfold M_MH_high_2; omega)
    have hf47 : q24.2.1 225 25 = nI 7 := fc_F e_c2 hFc24 (by unfold M_MH_high_2; omega)
    have hf48 : q24.2.1 225 26 = nI 2 := fc_F e_c3 hFc24 (by unfold M_MH_high_2; omega)
    have hf49 : q24.2.1 225 27 = nI 524288 := fc_F e_c4 hFc24 (by unfold M_MH_high_2; omega)
    have hf50 : q24.2.1 225 28 = nI 261888 := fc_F e_c5 hFc24 (by unfold M_MH_high_2; omega)
    have hf51 : q24.2.1 225 29 = nI 120 := fc_F e_c6 hFc24 (by unfold M_MH_high_2; omega)
    have hf52 : q24.2.1 225 30 = nI 64 := fc_F e_c7 hFc24 (by unfold M_MH_high_2; omega)
    refine W.widen (k := 0) (n := 0) (by omega) (by omega) ?_
    exact mp_iret hx hb hr hlk hP hD hS ((q24.1, q24.2), pl) ⟨⟨hR.symm, rfl, hF, trivial⟩, hO⟩ [] rfl rfl rfl (by omega) (by omega) dMH_used_19
def M_MH_rowBy_0 (pt : Nat) (k : Nat) : Prop := k = 370 ∨ k = pt ∨ (0 : Nat) = 1
noncomputable def F_MH_rowBy_0_L1 (rw : Nat) (i21 : Nat) (kk : Nat → Sto → Sto) : Nat → Nat → Int64 → Sto → Sto
  | 0, i22, y21, s23 => bnd ((s23.1 225 25).toNatClampNeg) fun z21 => bnd (sI s23 370 i21 ((y21 - y21 / (8380417) * (8380417)).toInt32)) fun s24 => kk (i21 + 1) s24
  | n22 + 1, i22, y21, s23 => bnd ((s23.1 225 25).toNatClampNeg) fun z22 => bnd ((y21 + ((((s23.1 ((227 + ((8 * rw) + i22))) i21).toInt64) * ((s23.1 ((343 + i22)) i21).toInt64)) - (((s23.1 ((227 + ((8 * rw) + i22))) i21).toInt64) * ((s23.1 ((343 + i22)) i21).toInt64)) / (8380417) * (8380417)))) fun y22 => F_MH_rowBy_0_L1 rw i21 kk n22 (i22 + 1) y22 s23
noncomputable def F_MH_rowBy_0_L0 (rw : Nat) (pt : Nat) : Nat → Nat → Sto → Sto
  | 0, i21, s21 => bnd (F_MR_back_8_0 370 pt s21) fun s22 => s22
  | n21 + 1, i21, s21 => F_MH_rowBy_0_L1 rw i21 (F_MH_rowBy_0_L0 rw pt n21) 4 0 0 s21
noncomputable def F_MH_rowBy_0 (rw : Nat) (pt : Nat) (s : Sto) : Sto := F_MH_rowBy_0_L0 rw pt 256 0 s
set_option maxHeartbeats 8000000 in
set_option maxRecDepth 100000 in
theorem N_MH_rowBy_0 (l : Launch) (g : Gd) (sz : Nat) (T : TyN) (s : Sto) (pl : va_W) (hO : okn g T s pl) (hU : inj T) (h0 to : Nat) (rw : Nat) (pt : Nat) (k_h0 : T h0 = some 225) (k_to : T to = some pt) (n_to : nsp pt = (0, 256, [])) (e_c0 : s.1 225 23 = nI 0) (e_c1 : s.1 225 24 = nI 4) (e_c2 : s.1 225 25 = nI 4) (e_c3 : s.1 225 26 = nI 2) (e_c4 : s.1 225 27 = nI 131072) (e_c5 : s.1 225 28 = nI 95232) (e_c6 : s.1 225 29 = nI 78) (e_c7 : s.1 225 30 = nI 32) (h1 : rw < 4)  : Met l y_MH_rowBy w_MH_rowBy ({ frames := 1, cells := 0, slots := 0, locals := 28 } : Room) (va_Pc [.ref h0, .int (nI rw), .ref to] (pr (en g) g.1 vcl sz ([] ++ pl))) (va_Qv (fun (u : (Sto) × va_W) => (u.1 = F_MH_rowBy_0 rw pt s ∧ frm (M_MH_rowBy_0 pt) s u.1 ∧ True) ∧ okn g T u.1 u.2) (po g.1 vcl (va_A ([] ++ pl) sz) (fun (u : (Sto) × va_W) => [] ++ u.2)) (va_A ([] ++ pl) sz)) 0 0 (va_A ([] ++ pl) sz) := by
  refine mc_entry (cc := c_MH_rowBy) (maxL := 7) (ret := none) (by decide) rfl (Nat.le_of_ble_eq_true rfl) ?_
  intro p e s0 m args below meth c ls F hr hlk hnm hsz hP hD hE hA hl
  obtain ⟨hx, hb, hml, hown, hts⟩ := id F
  have hK := hE.1
  generalize va_A ([] ++ pl) sz = A at hD hE hA ⊢
  have hS : va_S A s0.heap s0.heap [] := va_S.rf
  have hl : lv_has ls 7 [(0, .ref h0), (1, .int (nI rw)), (2, .ref to)] := hl
  have hR : F_MH_rowBy_0 rw pt s = F_MH_rowBy_0 rw pt s := rfl
  have hF : frm (M_MH_rowBy_0 pt) s s := frm_rf
  have ne_172_pt : 172 ≠ pt := nsp_ne (p := 172) rfl n_to (show (5 : Nat) ≠ 0 by decide)
  have ne_225_pt : 225 ≠ pt := nsp_ne (p := 225) rfl n_to (show (5 : Nat) ≠ 0 by decide)
  refine lv_iconst (v := nI 0) hx hb dMH_rowBy_0 (by decide) ?_
  refine lv_istore_n (lv' := [(3, .int (nI 0)), (0, .ref h0), (1, .int (nI rw)), (2, .ref to)]) hx hb dMH_rowBy_1 rfl hl (by decide) rfl (fun ls hl => ?_)
  have lp21 : ∀ (n21 : Nat) (i21 : Nat) (s21 : Sto) (pl : va_W) (ls : Array Slot) (H : Heap) (locs : List Loc), n21 + i21 = 256 → frm (M_MH_rowBy_0 pt) s s21 → s21.1 225 23 = nI 0 → s21.1 225 24 = nI 4 → s21.1 225 25 = nI 4 → s21.1 225 26 = nI 2 → s21.1 225 27 = nI 131072 → s21.1 225 28 = nI 95232 → s21.1 225 29 = nI 78 → s21.1 225 30 = nI 32 → F_MH_rowBy_0 rw pt s = F_MH_rowBy_0_L0 rw pt n21 i21 s21 → lv_has ls 7 [(3, .int (nI i21)), (0, .ref h0), (1, .int (nI rw)), (2, .ref to)] → okn g T s21 pl → va_P g.1 vcl ([] ++ pl) H → va_D A ([] ++ pl) → va_S A s0.heap H locs → W p l e ({ frames := 1, cells := 0, slots := 0, locals := 28 } : Room) s0 m args below meth c H locs 0 0 (MQ below (va_Qv (fun (u : (Sto) × va_W) => (u.1 = F_MH_rowBy_0 rw pt s ∧ frm (M_MH_rowBy_0 pt) s u.1 ∧ True) ∧ okn g T u.1 u.2) (po g.1 vcl A (fun (u : (Sto) × va_W) => [] ++ u.2)) A) args s0 0 0 A) (F0 m 2 ls []) := by
    intro n21
    induction n21 with
    | zero =>
      intro i21 s21 pl ls H locs hm21 hF hf21 hf22 hf23 hf24 hf25 hf26 hf27 hf28 hR hl hO hP hD hS
      refine lv_iload_n hx hb dMH_rowBy_2 rfl (lv_at hl 0 rfl) ?_
      refine lv_sipush (v := nI 256) hx hb dMH_rowBy_3 (by decide) ?_
      refine mi_ge (tgt := 84) hx hb dMH_rowBy_6 (by decide) (by omega) (by omega) (fun h21 => ?_) (fun h21 => absurd h21 (by omega))
      refine lv_aload_n hx hb dMH_rowBy_84 rfl (lv_at hl 1 rfl) ?_
      refine nw_get (C := "LatticeKeysModel$Hands") (TT := T_MH) (N := 31) hx hb hts (wg_ft i_MH) hown hK hO k_h0 (kn := 225) (ci := 12) (fl := [(3, 172), (3, 181), (3, 226), (3, 291), (3, 299), (3, 308), (3, 317), (3, 326), (3, 334), (3, 342), (3, 350), (3, 359), (3, 368), (3, 369), (3, 370), (3, 371), (3, 372), (3, 373), (3, 374), (3, 375), (3, 376), (3, 377), (3, 378), (0, 0), (0, 0), (0, 0), (0, 0), (0, 0), (0, 0), (0, 0), (0, 0)]) rfl hP rfl 1 (by decide) (hts _ (wg_t kw_1433)) (fun _ h9 => h9) (cd := (3, 181)) rfl dMH_rowBy_85 (fun v21 hv21 => ?_)
      obtain ⟨r21, rfl, kr21⟩ := (show ∃ r : Nat, v21 = .ref r ∧ T r = some 181 from hv21)
      refine lv_aload_n hx hb dMH_rowBy_88 rfl (lv_at hl 1 rfl) ?_
      refine nw_get (C := "LatticeKeysModel$Hands") (TT := T_MH) (N := 31) hx hb hts (wg_ft i_MH) hown hK hO k_h0 (kn := 225) (ci := 12) (fl := [(3, 172), (3, 181), (3, 226), (3, 291), (3, 299), (3, 308), (3, 317), (3, 326), (3, 334), (3, 342), (3, 350), (3, 359), (3, 368), (3, 369), (3, 370), (3, 371), (3, 372), (3, 373), (3, 374), (3, 375), (3, 376), (3, 377), (3, 378), (0, 0), (0, 0), (0, 0), (0, 0), (0, 0), (0, 0), (0, 0), (0, 0)]) rfl hP rfl 14 (by decide) (hts _ (wg_t kw_1446)) (fun _ h9 => h9) (cd := (3, 370)) rfl dMH_rowBy_89 (fun v22 hv22 => ?_)
      obtain ⟨r22, rfl, kr22⟩ := (show ∃ r : Nat, v22 = .ref r ∧ T r = some 370 from hv22)
      refine lv_aload_n hx hb dMH_rowBy_92 rfl (lv_at hl 3 rfl) ?_
      refine lv_iconst (v := nI 1) hx hb dMH_rowBy_93 (by decide) ?_
      refine lv_iconst (v := nI 0) hx hb dMH_rowBy_94 (by decide) ?_
      refine mp_v (cx := []) (wr := []) hP hD hS hA [] [] rfl rfl rfl (by decide) (va_runV (As := [.ref r22, .ref to, .int (nI 1), .int (nI 0)]) (rest := []) F (N_MR_back_8_0 l g _ T s21 pl hO hU r21 r22 to 370 pt kr21 kr22 rfl k_to n_to) (cwV 4 hts (wg_app (wg_c kw_1739 (wg_c kw_1740 (wg_c kw_1741 (wg_c kw_12 wg_n)))) kw_1742) rfl rfl rfl (by decide +kernel) ⟨by decide, by decide⟩) (pn_W "LatticeKeysModel$Ring" (en_ok g) (ci := 10) (kn := 181) (fl := [(1, 8380417), (1, 256), (3, 182), (3, 183), (4, 8347681)]) hK hO kr21 rfl hP hD hS hA hE [] rfl rfl rfl) rfl rfl hl.1 rfl (lv_room (Nat.le_of_ble_eq_true rfl)) dMH_rowBy_95 ⟨by omega, by omega⟩) (fun  u21 H locs hu21 hP hD hS => ?_)
      obtain ⟨s22, pl⟩ := u21
      obtain ⟨⟨eq21, hFc21, -⟩, hO⟩ := hu21
      have hO : okn g T s22 pl := hO
      have hP : va_P g.1 vcl ([] ++ pl) _ := hP
      have hD : va_D _ ([] ++ pl) := hD
      have hFc21 : frm (M_MR_back_8_0 pt) s21 s22 := hFc21
      replace hR := bnd_step hR eq21
      have hF := frm_tr hF hFc21 (fun k hk => by unfold M_MR_back_8_0 at hk; unfold M_MH_rowBy_0; omega)
      have hf29 : s22.1 225 23 = nI 0 := fc_F hf21 hFc21 (by unfold M_MR_back_8_0; omega)
      have hf30 : s22.1 225 24 = nI 4 := fc_F hf22 hFc21 (by unfold M_MR_back_8_0; omega)
      have hf31 : s22.1 225 25 = nI 4 := fc_F hf23 hFc21 (by unfold M_MR_back_8_0; omega)
      have hf32 : s22.1 225 26 = nI 2 := fc_F hf24 hFc21 (by unfold M_MR_back_8_0; omega)
      have hf33 : s22.1 225 27 = nI 131072 := fc_F hf25 hFc21 (by unfold M_MR_back_8_0; omega)
      have hf34 : s22.1 225 28 = nI 95232 := fc_F hf26 hFc21 (by unfold M_MR_back_8_0; omega)
      have hf35 : s22.1 225 29 = nI 78 := fc_F hf27 hFc21 (by unfold M_MR_back_8_0; omega)
      have hf36 : s22.1 225 30 = nI 32 := fc_F hf28 hFc21 (by unfold M_MR_back_8_0; omega)
      refine W.widen (k := 0) (n := 0) (by omega) (by omega) ?_
      exact mp_vret hx hb hr hlk hP hD hS (s22, pl) ⟨⟨hR.symm, hF, trivial⟩, hO⟩ [] rfl rfl rfl (by omega) (by omega) dMH_rowBy_98
    | succ n21 ih21 =>
      intro i21 s21 pl ls H locs hm21 hF hf37 hf38 hf39 hf40 hf41 hf42 hf43 hf44 hR hl hO hP hD hS
      refine lv_iload_n hx hb dMH_rowBy_2 rfl (lv_at hl 0 rfl) ?_
      refine lv_sipush (v := nI 256) hx hb dMH_rowBy_3 (by decide) ?_
      refine mi_ge (tgt := 84) hx hb dMH_rowBy_6 (by decide) (by omega) (by omega) (fun h22 => absurd h22 (by omega)) (fun h22 => ?_)
      refine lv_lconst (v := 0) hx hb dMH_rowBy_9 (by decide) ?_
      refine lv_lstore (lv' := [(4, .long 0), (3, .int (nI i21)), (0, .ref h0), (1, .int (nI rw)), (2, .ref to)]) hx hb dMH_rowBy_10 hl (by decide) rfl (fun ls hl => ?_)
      refine lv_iconst (v := nI 0) hx hb dMH_rowBy_12 (by decide) ?_
      refine lv_istore (lv' := [(6, .int (nI 0)), (4, .long 0), (3, .int (nI i21)), (0, .ref h0), (1, .int (nI rw)), (2, .ref to)]) hx hb dMH_rowBy_13 hl (by decide) rfl (fun ls hl => ?_)
      have lp22 : ∀ (n22 : Nat) (i22 : Nat) (y21 : Int64) (s23 : Sto) (pl : va_W) (ls : Array Slot) (H : Heap) (locs : List Loc), n22 + i22 = 4 → frm (M_MH_rowBy_0 pt) s s23 → s23.1 225 23 = nI 0 → s23.1 225 24 = nI 4 → s23.1 225 25 = nI 4 → s23.1 225 26 = nI 2 → s23.1 225 27 = nI 131072 → s23.1 225 28 = nI 95232 → s23.1 225 29 = nI 78 → s23.1 225 30 = nI 32 → F_MH_rowBy_0 rw pt s = F_MH_rowBy_0_L1 rw i21 (F_MH_rowBy_0_L0 rw pt n21) n22 i22 y21 s23 → lv_has ls 7 [(6, .int (nI i22)), (4, .long y21), (3, .int (nI i21)), (0, .ref h0), (1, .int (nI rw)), (2, .ref to)] → okn g T s23 pl → va_P g.1 vcl ([] ++ pl) H → va_D A ([] ++ pl) → va_S A s0.heap H locs → W p l e ({ frames := 1, cells := 0, slots := 0, locals := 28 } : Room) s0 m args below meth c H locs 0 0 (MQ below (va_Qv (fun (u : (Sto) × va_W) => (u.1 = F_MH_rowBy_0 rw pt s ∧ frm (M_MH_rowBy_0 pt) s u.1 ∧ True) ∧ okn g T u.1 u.2) (po g.1 vcl A (fun (u : (Sto) × va_W) => [] ++ u.2)) A) args s0 0 0 A) (F0 m 15 ls []) := by
        intro n22
        induction n22 with
        | zero =>
          intro i22 y21 s23 pl ls H locs hm22 hF hf45 hf46 hf47 hf48 hf49 hf50 hf51 hf52 hR hl hO hP hD hS
          refine lv_iload hx hb dMH_rowBy_15 (lv_at hl 0 rfl) ?_
          refine lv_aload_n hx hb dMH_rowBy_17 rfl (lv_at hl 3 rfl) ?_
          refine nw_get (C := "LatticeKeysModel$Hands") (TT := T_MH) (N := 31) hx hb hts (wg_ft i_MH) hown hK hO k_h0 (kn := 225) (ci := 12) (fl := [(3, 172), (3, 181), (3, 226), (3, 291), (3, 299), (3, 308), (3, 317), (3, 326), (3, 334), (3, 342), (3, 350), (3, 359), (3, 368), (3, 369), (3, 370), (3, 371), (3, 372), (3, 373), (3, 374), (3, 375), (3, 376), (3, 377), (3, 378), (0, 0), (0, 0), (0, 0), (0, 0), (0, 0), (0, 0), (0, 0), (0, 0)]) rfl hP rfl 25 (by decide) (hts _ (wg_t kw_1457)) (fun _ h9 => h9) (cd := (0, 0)) rfl dMH_rowBy_18 (fun v23 hv23 => ?_)
          obtain rfl := (show v23 = .int (s23.1 225 25) from hv23)
          obtain ⟨z21, ez21, hz21, hz22⟩ := cl_of (b := 2147483648) hf47 (by omega) (by decide)
          replace hR := bnd_step hR ez21
          refine mi_as hz21 ?_
          subst hz22
          refine mi_ge (tgt := 65) hx hb dMH_rowBy_21 (by decide) (by omega) (by omega) (fun h23 => ?_) (fun h23 => absurd h23 (by omega))
          refine lv_aload_n hx hb dMH_rowBy_65 rfl (lv_at hl 3 rfl) ?_
          refine nw_get (C := "LatticeKeysModel$Hands") (TT := T_MH) (N := 31) hx hb hts (wg_ft i_MH) hown hK hO k_h0 (kn := 225) (ci := 12) (fl := [(3, 172), (3, 181), (3, 226), (3, 291), (3, 299), (3, 308), (3, 317), (3, 326), (3, 334), (3, 342), (3, 350), (3, 359), (3, 368), (3, 369), (3, 370), (3, 371), (3, 372), (3, 373), (3, 374), (3, 375), (3, 376), (3, 377), (3, 378), (0, 0), (0, 0), (0, 0), (0, 0), (0, 0), (0, 0), (0, 0), (0, 0)]) rfl hP rfl 14 (by decide) (hts _ (wg_t kw_1446)) (fun _ h9 => h9) (cd := (3, 370)) rfl dMH_rowBy_66 (fun v24 hv24 => ?_)
          obtain ⟨r23, rfl, kr23⟩ := (show ∃ r : Nat, v24 = .ref r ∧ T r = some 370 from hv24)
          refine lv_iload_n hx hb dMH_rowBy_69 rfl (lv_at hl 2 rfl) ?_
          refine lv_lload hx hb dMH_rowBy_70 (lv_at hl 1 rfl) ?_
          refine lv_ldc2 (v := (8380417)) hx hb hown (hts _ (wg_t kw_1738)) dMH_rowBy_72 ?_
          refine lv_lrem hx hb dMH_rowBy_75 (by decide) ?_
          refine lv_l2i hx hb dMH_rowBy_76 rfl ?_
          refine nw_iast hx hb hK hO hU kr23 (k := 370) rfl hP hD hS (by omega) (by omega) dMH_rowBy_77 (fun s24 pl H locs es21 hO hP hD hS => ?_)
          replace hR := bnd_step hR es21
          have hF := frm_sI hF es21 (by unfold M_MH_rowBy_0; omega)
          have hf53 : s24.1 225 23 = nI 0 := fc_ne hf45 es21 (by omega)
          have hf54 : s24.1 225 24 = nI 4 := fc_ne hf46 es21 (by omega)
          have hf55 : s24.1 225 25 = nI 4 := fc_ne hf47 es21 (by omega)
          have hf56 : s24.1 225 26 = nI 2 := fc_ne hf48 es21 (by omega)
          have hf57 : s24.1 225 27 = nI 131072 := fc_ne hf49 es21 (by omega)
          have hf58 : s24.1 225 28 = nI 95232 := fc_ne hf50 es21 (by omega)
          have hf59 : s24.1 225 29 = nI 78 := fc_ne hf51 es21 (by omega)
          have hf60 : s24.1 225 30 = nI 32 := fc_ne hf52 es21 (by omega)
          refine mi_iinc (k := 2) (x := i21) (d := 1) (y := i21 + 1) (lv' := [(3, .int (nI (i21 + 1))), (6, .int (nI i22)), (4, .long y21), (0, .ref h0), (1, .int (nI rw)), (2, .ref to)]) hx hb dMH_rowBy_78 hl rfl (by decide) rfl (by decide) rfl (fun ls hl => ?_)
          refine lv_goto (tgt := 2) hx hb dMH_rowBy_81 (by decide) ?_
          exact ih21 (i21 + 1) s24 pl ls H locs (by omega) hF hf53 hf54 hf55 hf56 hf57 hf58 hf59 hf60 hR (lv_sub hl [0, 3, 4, 5] rfl) hO hP hD hS
        | succ n22 ih22 =>
          intro i22 y21 s23 pl ls H locs hm22 hF hf61 hf62 hf63 hf64 hf65 hf66 hf67 hf68 hR hl hO hP hD hS
          refine lv_iload hx hb dMH_rowBy_15 (lv_at hl 0 rfl) ?_
          refine lv_aload_n hx hb dMH_rowBy_17 rfl (lv_at hl 3 rfl) ?_
          refine nw_get (C := "LatticeKeysModel$Hands") (TT := T_MH) (N := 31) hx hb hts (wg_ft i_MH) hown hK hO k_h0 (kn := 225) (ci := 12) (fl := [(3, 172), (3, 181), (3, 226), (3, 291), (3, 299), (3, 308), (3, 317), (3, 326), (3, 334), (3, 342), (3, 350), (3, 359), (3, 368), (3, 369), (3, 370), (3, 371), (3, 372), (3, 373), (3, 374), (3, 375), (3, 376), (3, 377), (3, 378), (0, 0), (0, 0), (0, 0), (0, 0), (0, 0), (0, 0), (0, 0), (0, 0)]) rfl hP rfl 25 (by decide) (hts _ (wg_t kw_1457)) (fun _ h9 => h9) (cd := (0, 0)) rfl dMH_rowBy_18 (fun v25 hv25 => ?_)
          obtain rfl := (show v25 = .int (s23.1 225 25) from hv25)
          obtain ⟨z22, ez22, hz23, hz24⟩ := cl_of (b := 2147483648) hf63 (by omega) (by decide)
          replace hR := bnd_step hR ez22
          refine mi_as hz23 ?_
          subst hz24
          refine mi_ge (tgt := 65) hx hb dMH_rowBy_21 (by decide) (by omega) (by omega) (fun h24 => absurd h24 (by omega)) (fun h24 => ?_)
          refine lv_lload hx hb dMH_rowBy_24 (lv_at hl 1 rfl) ?_
          refine lv_aload_n hx hb dMH_rowBy_26 rfl (lv_at hl 3 rfl) ?_
          refine nw_get (C := "LatticeKeysModel$Hands") (TT := T_MH) (N := 31) hx hb hts (wg_ft i_MH) hown hK hO k_h0 (kn := 225) (ci := 12) (fl := [(3, 172), (3, 181), (3, 226), (3, 291), (3, 299), (3, 308), (3, 317), (3, 326), (3, 334), (3, 342), (3, 350), (3, 359), (3, 368), (3, 369), (3, 370), (3, 371), (3, 372), (3, 373), (3, 374), (3, 375), (3, 376), (3, 377), (3, 378), (0, 0), (0, 0), (0, 0), (0, 0), (0, 0), (0, 0), (0, 0), (0, 0)]) rfl hP rfl 2 (by decide) (hts _ (wg_t kw_1434)) (fun _ h9 => h9) (cd := (3, 226)) rfl dMH_rowBy_27 (fun v26 hv26 => ?_)
          obtain ⟨r24, rfl, kr24⟩ := (show ∃ r : Nat, v26 = .ref r ∧ T r = some 226 from hv26)
          refine lv_bipush (v := nI 8) hx hb dMH_rowBy_30 (by decide) ?_
          refine lv_iload_n hx hb dMH_rowBy_32 rfl (lv_at hl 4 rfl) ?_
          refine mi_imul hx hb dMH_rowBy_33 ?_
          refine lv_iload hx hb dMH_rowBy_34 (lv_at hl 0 rfl) ?_
          refine mi_iadd hx hb dMH_rowBy_36 ?_
          refine nw_aald3 hx hb hK hO kr24 (k := 226) (b := 227) rfl hP (by omega) (by omega) dMH_rowBy_37 (fun r25 kr25 => ?_)
          have hn21 : nsp (227 + ((8 * rw) + i22)) = (0, 256, []) := rows_ok 227 64 (by decide) _ (by omega)
          refine lv_iload_n hx hb dMH_rowBy_38 rfl (lv_at hl 2 rfl) ?_
          refine nw_iald hx hb hK hO kr25 (k := (227 + ((8 * rw) + i22))) hn21 hP (by omega) (by omega) dMH_rowBy_39 ?_
          refine lv_i2l hx hb dMH_rowBy_40 rfl ?_
          refine lv_aload_n hx hb dMH_rowBy_41 rfl (lv_at hl 3 rfl) ?_
          refine nw_get (C := "LatticeKeysModel$Hands") (TT := T_MH) (N := 31) hx hb hts (wg_ft i_MH) hown hK hO k_h0 (kn := 225) (ci := 12) (fl := [(3, 172), (3, 181), (3, 226), (3, 291), (3, 299), (3, 308), (3, 317), (3, 326), (3, 334), (3, 342), (3, 350), (3, 359), (3, 368), (3, 369), (3, 370), (3, 371), (3, 372), (3, 373), (3, 374), (3, 375), (3, 376), (3, 377), (3, 378), (0, 0), (0, 0), (0, 0), (0, 0), (0, 0), (0, 0), (0, 0), (0, 0)]) rfl hP rfl 9 (by decide) (hts _ (wg_t kw_1441)) (fun _ h9 => h9) (cd := (3, 342)) rfl dMH_rowBy_42 (fun v27 hv27 => ?_)
          obtain ⟨r26, rfl, kr26⟩ := (show ∃ r : Nat, v27 = .ref r ∧ T r = some 342 from hv27)
          refine lv_iload hx hb dMH_rowBy_45 (lv_at hl 0 rfl) ?_
          refine nw_aald3 hx hb hK hO kr26 (k := 342) (b := 343) rfl hP (by omega) (by omega) dMH_rowBy_47 (fun r27 kr27 => ?_)
          have hn22 : nsp (343 + i22) = (0, 256, []) := rows_ok 343 7 (by decide) _ (by omega)
          refine lv_iload_n hx hb dMH_rowBy_48 rfl (lv_at hl 2 rfl) ?_
          refine nw_iald hx hb hK hO kr27 (k := (343 + i22)) hn22 hP (by omega) (by omega) dMH_rowBy_49 ?_
          refine lv_i2l hx hb dMH_rowBy_50 rfl ?_
          refine lv_lmul hx hb dMH_rowBy_51 ?_
          refine lv_ldc2 (v := (8380417)) hx hb hown (hts _ (wg_t kw_1738)) dMH_rowBy_52 ?_
          refine lv_lrem hx hb dMH_rowBy_55 (by decide) ?_
          refine lv_ladd hx hb dMH_rowBy_56 ?_
          refine ml_eqv (fun y22 ez23 => ?_)
          replace hR := bnd_step hR ez23
          refine lv_lstore (lv' := [(4, .long y22), (6, .int (nI i22)), (3, .int (nI i21)), (0, .ref h0), (1, .int (nI rw)), (2, .ref to)]) hx hb dMH_rowBy_57 hl (by decide) rfl (fun ls hl => ?_)
          refine mi_iinc (k := 1) (x := i22) (d := 1) (y := i22 + 1) (lv' := [(6, .int (nI (i22 + 1))), (4, .long y22), (3, .int (nI i21)), (0, .ref h0), (1, .int (nI rw)), (2, .ref to)]) hx hb dMH_rowBy_59 hl rfl (by decide) rfl (by decide) rfl (fun ls hl => ?_)
          refine lv_goto (tgt := 15) hx hb dMH_rowBy_62 (by decide) ?_
          exact ih22 (i22 + 1) y22 s23 pl ls H locs (by omega) hF hf61 hf62 hf63 hf64 hf65 hf66 hf67 hf68 hR (lv_sub hl [0, 1, 2, 3, 4, 5] rfl) hO hP hD hS
      exact lp22 4 0 0 s21 pl ls _ _ (by omega) hF hf37 hf38 hf39 hf40 hf41 hf42 hf43 hf44 hR (lv_sub hl [0, 1, 2, 3, 4, 5] rfl) hO hP hD hS
  exact lp21 256 0 s pl ls _ _ (by omega) hF e_c0 e_c1 e_c2 e_c3 e_c4 e_c5 e_c6 e_c7 hR (lv_sub hl [0, 1, 2, 3] rfl) hO hP hD hS
def M_MH_rowBy_1 (pt : Nat) (k : Nat) : Prop := k = 370 ∨ k = pt ∨ (0 : Nat) = 1
noncomputable def F_MH_rowBy_1_L1 (rw : Nat) (i21 : Nat) (kk : Nat → Sto → Sto) : Nat → Nat → Int64 → Sto → Sto
  | 0, i22, y21, s23 => bnd ((s23.1 225 25).toNatClampNeg) fun z21 => bnd (sI s23 370 i21 ((y21 - y21 / (8380417) * (8380417)).toInt32)) fun s24 => kk (i21 + 1) s24
  | n22 + 1, i22, y21, s23 => bnd ((s23.1 225 25).toNatClampNeg) fun z22 => bnd ((y21 + ((((s23.1 ((227 + ((8 * rw) + i22))) i21).toInt64) * ((s23.1 ((343 + i22)) i21).toInt64)) - (((s23.1 ((227 + ((8 * rw) + i22))) i21).toInt64) * ((s23.1 ((343 + i22)) i21).toInt64)) / (8380417) * (8380417)))) fun y22 => F_MH_rowBy_1_L1 rw i21 kk n22 (i22 + 1) y22 s23
noncomputable def F_MH_rowBy_1_L0 (rw : Nat) (pt : Nat) : Nat → Nat → Sto → Sto
  | 0, i21, s21 => bnd (F_MR_back_8_0 370 pt s21) fun s22 => s22
  | n21 + 1, i21, s21 => F_MH_rowBy_1_L1 rw i21 (F_MH_rowBy_1_L0 rw pt n21) 5 0 0 s21
noncomputable def F_MH_rowBy_1 (rw : Nat) (pt : Nat) (s : Sto) : Sto := F_MH_rowBy_1_L0 rw pt 256 0 s
set_option maxHeartbeats 8000000 in
set_option maxRecDepth 100000 in
theorem N_MH_rowBy_1 (l : Launch) (g : Gd) (sz : Nat) (T : TyN) (s : Sto) (pl : va_W) (hO : okn g T s pl) (hU : inj T) (h0 to : Nat) (rw : Nat) (pt : Nat) (k_h0 : T h0 = some 225) (k_to : T to = some pt) (n_to : nsp pt = (0, 256, [])) (e_c0 : s.1 225 23 = nI 1) (e_c1 : s.1 225 24 = nI 6) (e_c2 : s.1 225 25 = nI 5) (e_c3 : s.1 225 26 = nI 4) (e_c4 : s.1 225 27 = nI 524288) (e_c5 : s.1 225 28 = nI 261888) (e_c6 : s.1 225 29 = nI 196) (e_c7 : s.1 225 30 = nI 48) (h1 : rw < 6)  : Met l y_MH_rowBy w_MH_rowBy ({ frames := 1, cells := 0, slots := 0, locals := 28 } : Room) (va_Pc [.ref h0, .int (nI rw), .ref to] (pr (en g) g.1 vcl sz ([] ++ pl))) (va_Qv (fun (u : (Sto) × va_W) => (u.1 = F_MH_rowBy_1 rw pt s ∧ frm (M_MH_rowBy_1 pt) s u.1 ∧ True) ∧ okn g T u.1 u.2) (po g.1 vcl (va_A ([] ++ pl) sz) (fun (u : (Sto) × va_W) => [] ++ u.2)) (va_A ([] ++ pl) sz)) 0 0 (va_A ([] ++ pl) sz) := by
  refine mc_entry (cc := c_MH_rowBy) (maxL := 7) (ret := none) (by decide) rfl (Nat.le_of_ble_eq_true rfl) ?_
  intro p e s0 m args below meth c ls F hr hlk hnm hsz hP hD hE hA hl
  obtain ⟨hx, hb, hml, hown, hts⟩ := id F
  have hK := hE.1
  generalize va_A ([] ++ pl) sz = A at hD hE hA ⊢
  have hS : va_S A s0.heap s0.heap [] := va_S.rf
  have hl : lv_has ls 7 [(0, .ref h0), (1, .int (nI rw)), (2, .ref to)] := hl
  have hR : F_MH_rowBy_1 rw pt s = F_MH_rowBy_1 rw pt s := rfl
  have hF : frm (M_MH_rowBy_1 pt) s s := frm_rf
  have ne_172_pt : 172 ≠ pt := nsp_ne (p := 172) rfl n_to (show (5 : Nat) ≠ 0 by decide)
  have ne_225_pt : 225 ≠ pt := nsp_ne (p := 225) rfl n_to (show (5 : Nat) ≠ 0 by decide)
  refine lv_iconst (v := nI 0) hx hb dMH_rowBy_0 (by decide) ?_
  refine lv_istore_n (lv' := [(3, .int (nI 0)), (0, .ref h0), (1, .int (nI rw)), (2, .ref to)]) hx hb dMH_rowBy_1 rfl hl (by decide) rfl (fun ls hl => ?_)
  have lp21 : ∀ (n21 : Nat) (i21 : Nat) (s21 : Sto) (pl : va_W) (ls : Array Slot) (H : Heap) (locs : List Loc), n21 + i21 = 256 → frm (M_MH_rowBy_1 pt) s s21 → s21.1 225 23 = nI 1 → s21.1 225 24 = nI 6 → s21.1 225 25 = nI 5 → s21.1 225 26 = nI 4 → s21.1 225 27 = nI 524288 → s21.1 225 28 = nI 261888 → s21.1 225 29 = nI 196 → s21.1 225 30 = nI 48 → F_MH_rowBy_1 rw pt s = F_MH_rowBy_1_L0 rw pt n21 i21 s21 → lv_has ls 7 [(3, .int (nI i21)), (0, .ref h0), (1, .int (nI rw)), (2, .ref to)] → okn g T s21 pl → va_P g.1 vcl ([] ++ pl) H → va_D A ([] ++ pl) → va_S A s0.heap H locs → W p l e ({ frames := 1, cells := 0, slots := 0, locals := 28 } : Room) s0 m args below meth c H locs 0 0 (MQ below (va_Qv (fun (u : (Sto) × va_W) => (u.1 = F_MH_rowBy_1 rw pt s ∧ frm (M_MH_rowBy_1 pt) s u.1 ∧ True) ∧ okn g T u.1 u.2) (po g.1 vcl A (fun (u : (Sto) × va_W) => [] ++ u.2)) A) args s0 0 0 A) (F0 m 2 ls []) := by
    intro n21
    induction n21 with
    | zero =>
      intro i21 s21 pl ls H locs hm21 hF hf21 hf22 hf23 hf24 hf25 hf26 hf27 hf28 hR hl hO hP hD hS
      refine lv_iload_n hx hb dMH_rowBy_2 rfl (lv_at hl 0 rfl) ?_
      refine lv_sipush (v := nI 256) hx hb dMH_rowBy_3 (by decide) ?_
      refine mi_ge (tgt := 84) hx hb dMH_rowBy_6 (by decide) (by omega) (by omega) (fun h21 => ?_) (fun h21 => absurd h21 (by omega))
      refine lv_aload_n hx hb dMH_rowBy_84 rfl (lv_at hl 1 rfl) ?_
      refine nw_get (C := "LatticeKeysModel$Hands") (TT := T_MH) (N := 31) hx hb hts (wg_ft i_MH) hown hK hO k_h0 (kn := 225) (ci := 12) (fl := [(3, 172), (3, 181), (3, 226), (3, 291), (3, 299), (3, 308), (3, 317), (3, 326), (3, 334), (3, 342), (3, 350), (3, 359), (3, 368), (3, 369), (3, 370), (3, 371), (3, 372), (3, 373), (3, 374), (3, 375), (3, 376), (3, 377), (3, 378), (0, 0), (0, 0), (0, 0), (0, 0), (0, 0), (0, 0), (0, 0), (0, 0)]) rfl hP rfl 1 (by decide) (hts _ (wg_t kw_1433)) (fun _ h9 => h9) (cd := (3, 181)) rfl dMH_rowBy_85 (fun v21 hv21 => ?_)
      obtain ⟨r21, rfl, kr21⟩ := (show ∃ r : Nat, v21 = .ref r ∧ T r = some 181 from hv21)
      refine lv_aload_n hx hb dMH_rowBy_88 rfl (lv_at hl 1 rfl) ?_
      refine nw_get (C := "LatticeKeysModel$Hands") (TT := T_MH) (N := 31) hx hb hts (wg_ft i_MH) hown hK hO k_h0 (kn := 225) (ci := 12) (fl := [(3, 172), (3, 181), (3, 226), (3, 291), (3, 299), (3, 308), (3, 317), (3, 326), (3, 334), (3, 342), (3, 350), (3, 359), (3, 368), (3, 369), (3, 370), (3, 371), (3, 372), (3, 373), (3, 374), (3, 375), (3, 376), (3, 377), (3, 378), (0, 0), (0, 0), (0, 0), (0, 0), (0, 0), (0, 0), (0, 0), (0, 0)]) rfl hP rfl 14 (by decide) (hts _ (wg_t kw_1446)) (fun _ h9 => h9) (cd := (3, 370)) rfl dMH_rowBy_89 (fun v22 hv22 => ?_)
      obtain ⟨r22, rfl, kr22⟩ := (show ∃ r : Nat, v22 = .ref r ∧ T r = some 370 from hv22)
      refine lv_aload_n hx hb dMH_rowBy_92 rfl (lv_at hl 3 rfl) ?_
      refine lv_iconst (v := nI 1) hx hb dMH_rowBy_93 (by decide) ?_
      refine lv_iconst (v := nI 0) hx hb dMH_rowBy_94 (by decide) ?_
      refine mp_v (cx := []) (wr := []) hP hD hS hA [] [] rfl rfl rfl (by decide) (va_runV (As := [.ref r22, .ref to, .int (nI 1), .int (nI 0)]) (rest := []) F (N_MR_back_8_0 l g _ T s21 pl hO hU r21 r22 to 370 pt kr21 kr22 rfl k_to n_to) (cwV 4 hts (wg_app (wg_c kw_1739 (wg_c kw_1740 (wg_c kw_1741 (wg_c kw_12 wg_n)))) kw_1742) rfl rfl rfl (by decide +kernel) ⟨by decide, by decide⟩) (pn_W "LatticeKeysModel$Ring" (en_ok g) (ci := 10) (kn := 181) (fl := [(1, 8380417), (1, 256), (3, 182), (3, 183), (4, 8347681)]) hK hO kr21 rfl hP hD hS hA hE [] rfl rfl rfl) rfl rfl hl.1 rfl (lv_room (Nat.le_of_ble_eq_true rfl)) dMH_rowBy_95 ⟨by omega, by omega⟩) (fun  u21 H locs hu21 hP hD hS => ?_)
      obtain ⟨s22, pl⟩ := u21
      obtain ⟨⟨eq21, hFc21, -⟩, hO⟩ := hu21
      have hO : okn g T s22 pl := hO
      have hP : va_P g.1 vcl ([] ++ pl) _ := hP
      have hD : va_D _ ([] ++ pl) := hD
      have hFc21 : frm (M_MR_back_8_0 pt) s21 s22 := hFc21
      replace hR := bnd_step hR eq21
      have hF := frm_tr hF hFc21 (fun k hk => by unfold M_MR_back_8_0 at hk; unfold M_MH_rowBy_1; omega)
      have hf29 : s22.1 225 23 = nI 1 := fc_F hf21 hFc21 (by unfold M_MR_back_8_0; omega)
      have hf30 : s22.1 225 24 = nI 6 := fc_F hf22 hFc21 (by unfold M_MR_back_8_0; omega)
      have hf31 : s22.1 225 25 = nI 5 := fc_F hf23 hFc21 (by unfold M_MR_back_8_0; omega)
      have hf32 : s22.1 225 26 = nI 4 := fc_F hf24 hFc21 (by unfold M_MR_back_8_0; omega)
      have hf33 : s22.1 225 27 = nI 524288 := fc_F hf25 hFc21 (by unfold M_MR_back_8_0; omega)
      have hf34 : s22.1 225 28 = nI 261888 := fc_F hf26 hFc21 (by unfold M_MR_back_8_0; omega)
      have hf35 : s22.1 225 29 = nI 196 := fc_F hf27 hFc21 (by unfold M_MR_back_8_0; omega)
      have hf36 : s22.1 225 30 = nI 48 := fc_F hf28 hFc21 (by unfold M_MR_back_8_0; omega)
      refine W.widen (k := 0) (n := 0) (by omega) (by omega) ?_
      exact mp_vret hx hb hr hlk hP hD hS (s22, pl) ⟨⟨hR.symm, hF, trivial⟩, hO⟩ [] rfl rfl rfl (by omega) (by omega) dMH_rowBy_98
    | succ n21 ih21 =>
      intro i21 s21 pl ls H locs hm21 hF hf37 hf38 hf39 hf40 hf41 hf42 hf43 hf44 hR hl hO hP hD hS
      refine lv_iload_n hx hb dMH_rowBy_2 rfl (lv_at hl 0 rfl) ?_
      refine lv_sipush (v := nI 256) hx hb dMH_rowBy_3 (by decide) ?_
      refine mi_ge (tgt := 84) hx hb dMH_rowBy_6 (by decide) (by omega) (by omega) (fun h22 => absurd h22 (by omega)) (fun h22 => ?_)
      refine lv_lconst (v := 0) hx hb dMH_rowBy_9 (by decide) ?_
      refine lv_lstore (lv' := [(4, .long 0), (3, .int (nI i21)), (0, .ref h0), (1, .int (nI rw)), (2, .ref to)]) hx hb dMH_rowBy_10 hl (by decide) rfl (fun ls hl => ?_)
      refine lv_iconst (v := nI 0) hx hb dMH_rowBy_12 (by decide) ?_
      refine lv_istore (lv' := [(6, .int (nI 0)), (4, .long 0), (3, .int (nI i21)), (0, .ref h0), (1, .int (nI rw)), (2, .ref to)]) hx hb dMH_rowBy_13 hl (by decide) rfl (fun ls hl => ?_)
      have lp22 : ∀ (n22 : Nat) (i22 : Nat) (y21 : Int64) (s23 : Sto) (pl : va_W) (ls : Array Slot) (H : Heap) (locs : List Loc), n22 + i22 = 5 → frm (M_MH_rowBy_1 pt) s s23 → s23.1 225 23 = nI 1 → s23.1 225 24 = nI 6 → s23.1 225 25 = nI 5 → s23.1 225 26 = nI 4 → s23.1 225 27 = nI 524288 → s23.1 225 28 = nI 261888 → s23.1 225 29 = nI 196 → s23.1 225 30 = nI 48 → F_MH_rowBy_1 rw pt s = F_MH_rowBy_1_L1 rw i21 (F_MH_rowBy_1_L0 rw pt n21) n22 i22 y21 s23 → lv_has ls 7 [(6, .int (nI i22)), (4, .long y21), (3, .int (nI i21)), (0, .ref h0), (1, .int (nI rw)), (2, .ref to)] → okn g T s23 pl → va_P g.1 vcl ([] ++ pl) H → va_D A ([] ++ pl) → va_S A s0.heap H locs → W p l e ({ frames := 1, cells := 0, slots := 0, locals := 28 } : Room) s0 m args below meth c H locs 0 0 (MQ below (va_Qv (fun (u : (Sto) × va_W) => (u.1 = F_MH_rowBy_1 rw pt s ∧ frm (M_MH_rowBy_1 pt) s u.1 ∧ True) ∧ okn g T u.1 u.2) (po g.1 vcl A (fun (u : (Sto) × va_W) => [] ++ u.2)) A) args s0 0 0 A) (F0 m 15 ls []) := by
        intro n22
        induction n22 with
        | zero =>
          intro i22 y21 s23 pl ls H locs hm22 hF hf45 hf46 hf47 hf48 hf49 hf50 hf51 hf52 hR hl hO hP hD hS
          refine lv_iload hx hb dMH_rowBy_15 (lv_at hl 0 rfl) ?_
          refine lv_aload_n hx hb dMH_rowBy_17 rfl (lv_at hl 3 rfl) ?_
          refine nw_get (C := "LatticeKeysModel$Hands") (TT := T_MH) (N := 31) hx hb hts (wg_ft i_MH) hown hK hO k_h0 (kn := 225) (ci := 12) (fl := [(3, 172), (3, 181), (3, 226), (3, 291), (3, 299), (3, 308), (3, 317), (3, 326), (3, 334), (3, 342), (3, 350), (3, 359), (3, 368), (3, 369), (3, 370), (3, 371), (3, 372), (3, 373), (3, 374), (3, 375), (3, 376), (3, 377), (3, 378), (0, 0), (0, 0), (0, 0), (0, 0), (0, 0), (0, 0), (0, 0), (0, 0)]) rfl hP rfl 25 (by decide) (hts _ (wg_t kw_1457)) (fun _ h9 => h9) (cd := (0, 0)) rfl dMH_rowBy_18 (fun v23 hv23 => ?_)
          obtain rfl := (show v23 = .int (s23.1 225 25) from hv23)
          obtain ⟨z21, ez21, hz21, hz22⟩ := cl_of (b := 2147483648) hf47 (by omega) (by decide)
          replace hR := bnd_step hR ez21
          refine mi_as hz21 ?_
          subst hz22
          refine mi_ge (tgt := 65) hx hb dMH_rowBy_21 (by decide) (by omega) (by omega) (fun h23 => ?_) (fun h23 => absurd h23 (by omega))
          refine lv_aload_n hx hb dMH_rowBy_65 rfl (lv_at hl 3 rfl) ?_
          refine nw_get (C := "LatticeKeysModel$Hands") (TT := T_MH) (N := 31) hx hb hts (wg_ft i_MH) hown hK hO k_h0 (kn := 225) (ci := 12) (fl := [(3, 172), (3, 181), (3, 226), (3, 291), (3, 299), (3, 308), (3, 317), (3, 326), (3, 334), (3, 342), (3, 350), (3, 359), (3, 368), (3, 369), (3, 370), (3, 371), (3, 372), (3, 373), (3, 374), (3, 375), (3, 376), (3, 377), (3, 378), (0, 0), (0, 0), (0, 0), (0, 0), (0, 0), (0, 0), (0, 0), (0, 0)]) rfl hP rfl 14 (by decide) (hts _ (wg_t kw_1446)) (fun _ h9 => h9) (cd := (3, 370)) rfl dMH_rowBy_66 (fun v24 hv24 => ?_)
          obtain ⟨r23, rfl, kr23⟩ := (show ∃ r : Nat, v24 = .ref r ∧ T r = some 370 from hv24)
          refine lv_iload_n hx hb dMH_rowBy_69 rfl (lv_at hl 2 rfl) ?_
          refine lv_lload hx hb dMH_rowBy_70 (lv_at hl 1 rfl) ?_
          refine lv_ldc2 (v := (8380417)) hx hb hown (hts _ (wg_t kw_1738)) dMH_rowBy_72 ?_
          refine lv_lrem hx hb dMH_rowBy_75 (by decide) ?_
          refine lv_l2i hx hb dMH_rowBy_76 rfl ?_
          refine nw_iast hx hb hK hO hU kr23 (k := 370) rfl hP hD hS (by omega) (by omega) dMH_rowBy_77 (fun s24 pl H locs es21 hO hP hD hS => ?_)
          replace hR := bnd_step hR es21
          have hF := frm_sI hF es21 (by unfold M_MH_rowBy_1; omega)
          have hf53 : s24.1 225 23 = nI 1 := fc_ne hf45 es21 (by omega)
          have hf54 : s24.1 225 24 = nI 6 := fc_ne hf46 es21 (by omega)
          have hf55 : s24.1 225 25 = nI 5 := fc_ne hf47 es21 (by omega)
          have hf56 : s24.1 225 26 = nI 4 := fc_ne hf48 es21 (by omega)
          have hf57 : s24.1 225 27 = nI 524288 := fc_ne hf49 es21 (by omega)
          have hf58 : s24.1 225 28 = nI 261888 := fc_ne hf50 es21 (by omega)
          have hf59 : s24.1 225 29 = nI 196 := fc_ne hf51 es21 (by omega)
          have hf60 : s24.1 225 30 = nI 48 := fc_ne hf52 es21 (by omega)
          refine mi_iinc (k := 2) (x := i21) (d := 1) (y := i21 + 1) (lv' := [(3, .int (nI (i21 + 1))), (6, .int (nI i22)), (4, .long y21), (0, .ref h0), (1, .int (nI rw)), (2, .ref to)]) hx hb dMH_rowBy_78 hl rfl (by decide) rfl (by decide) rfl (fun ls hl => ?_)
          refine lv_goto (tgt := 2) hx hb dMH_rowBy_81 (by decide) ?_
          exact ih21 (i21 + 1) s24 pl ls H locs (by omega) hF hf53 hf54 hf55 hf56 hf57 hf58 hf59 hf60 hR (lv_sub hl [0, 3, 4, 5] rfl) hO hP hD hS
        | succ n22 ih22 =>
          intro i22 y21 s23 pl ls H locs hm22 hF hf61 hf62 hf63 hf64 hf65 hf66 hf67 hf68 hR hl hO hP hD hS
          refine lv_iload hx hb dMH_rowBy_15 (lv_at hl 0 rfl) ?_
          refine lv_aload_n hx hb dMH_rowBy_17 rfl (lv_at hl 3 rfl) ?_
          refine nw_get (C := "LatticeKeysModel$Hands") (TT := T_MH) (N := 31) hx hb hts (wg_ft i_MH) hown hK hO k_h0 (kn := 225) (ci := 12) (fl := [(3, 172), (3, 181), (3, 226), (3, 291), (3, 299), (3, 308), (3, 317), (3, 326), (3, 334), (3, 342), (3, 350), (3, 359), (3, 368), (3, 369), (3, 370), (3, 371), (3, 372), (3, 373), (3, 374), (3, 375), (3, 376), (3, 377), (3, 378), (0, 0), (0, 0), (0, 0), (0, 0), (0, 0), (0, 0), (0, 0), (0, 0)]) rfl hP rfl 25 (by decide) (hts _ (wg_t kw_1457)) (fun _ h9 => h9) (cd := (0, 0)) rfl dMH_rowBy_18 (fun v25 hv25 => ?_)
          obtain rfl := (show v25 = .int (s23.1 225 25) from hv25)
          obtain ⟨z22, ez22, hz23, hz24⟩ := cl_of (b := 2147483648) hf63 (by omega) (by decide)
          replace hR := bnd_step hR ez22
          refine mi_as hz23 ?_
          subst hz24
          refine mi_ge (tgt := 65) hx hb dMH_rowBy_21 (by decide) (by omega) (by omega) (fun h24 => absurd h24 (by omega)) (fun h24 => ?_)
          refine lv_lload hx hb dMH_rowBy_24 (lv_at hl 1 rfl) ?_
          refine lv_aload_n hx hb dMH_rowBy_26 rfl (lv_at hl 3 rfl) ?_
          refine nw_get (C := "LatticeKeysModel$Hands") (TT := T_MH) (N := 31) hx hb hts (wg_ft i_MH) hown hK hO k_h0 (kn := 225) (ci := 12) (fl := [(3, 172), (3, 181), (3, 226), (3, 291), (3, 299), (3, 308), (3, 317), (3, 326), (3, 334), (3, 342), (3, 350), (3, 359), (3, 368), (3, 369), (3, 370), (3, 371), (3, 372), (3, 373), (3, 374), (3, 375), (3, 376), (3, 377), (3, 378), (0, 0), (0, 0), (0, 0), (0, 0), (0, 0), (0, 0), (0, 0), (0, 0)]) rfl hP rfl 2 (by decide) (hts _ (wg_t kw_1434)) (fun _ h9 => h9) (cd := (3, 226)) rfl dMH_rowBy_27 (fun v26 hv26 => ?_)
          obtain ⟨r24, rfl, kr24⟩ := (show ∃ r : Nat, v26 = .ref r ∧ T r = some 226 from hv26)
          refine lv_bipush (v := nI 8) hx hb dMH_rowBy_30 (by decide) ?_
          refine lv_iload_n hx hb dMH_rowBy_32 rfl (lv_at hl 4 rfl) ?_
          refine mi_imul hx hb dMH_rowBy_33 ?_
          refine lv_iload hx hb dMH_rowBy_34 (lv_at hl 0 rfl) ?_
          refine mi_iadd hx hb dMH_rowBy_36 ?_
          refine nw_aald3 hx hb hK hO kr24 (k := 226) (b := 227) rfl hP (by omega) (by omega) dMH_rowBy_37 (fun r25 kr25 => ?_)
          have hn21 : nsp (227 + ((8 * rw) + i22)) = (0, 256, []) := rows_ok 227 64 (by decide) _ (by omega)
          refine lv_iload_n hx hb dMH_rowBy_38 rfl (lv_at hl 2 rfl) ?_
          refine nw_iald hx hb hK hO kr25 (k := (227 + ((8 * rw) + i22))) hn21 hP (by omega) (by omega) dMH_rowBy_39 ?_
          refine lv_i2l hx hb dMH_rowBy_40 rfl ?_
          refine lv_aload_n hx hb dMH_rowBy_41 rfl (lv_at hl 3 rfl) ?_
          refine nw_get (C := "LatticeKeysModel$Hands") (TT := T_MH) (N := 31) hx hb hts (wg_ft i_MH) hown hK hO k_h0 (kn := 225) (ci := 12) (fl := [(3, 172), (3, 181), (3, 226), (3, 291), (3, 299), (3, 308), (3, 317), (3, 326), (3, 334), (3, 342), (3, 350), (3, 359), (3, 368), (3, 369), (3, 370), (3, 371), (3, 372), (3, 373), (3, 374), (3, 375), (3, 376), (3, 377), (3, 378), (0, 0), (0, 0), (0, 0), (0, 0), (0, 0), (0, 0), (0, 0), (0, 0)]) rfl hP rfl 9 (by decide) (hts _ (wg_t kw_1441)) (fun _ h9 => h9) (cd := (3, 342)) rfl dMH_rowBy_42 (fun v27 hv27 => ?_)
          obtain ⟨r26, rfl, kr26⟩ := (show ∃ r : Nat, v27 = .ref r ∧ T r = some 342 from hv27)
          refine lv_iload hx hb dMH_rowBy_45 (lv_at hl 0 rfl) ?_
          refine nw_aald3 hx hb hK hO kr26 (k := 342) (b := 343) rfl hP (by omega) (by omega) dMH_rowBy_47 (fun r27 kr27 => ?_)
          have hn22 : nsp (343 + i22) = (0, 256, []) := rows_ok 343 7 (by decide) _ (by omega)
          refine lv_iload_n hx hb dMH_rowBy_48 rfl (lv_at hl 2 rfl) ?_
          refine nw_iald hx hb hK hO kr27 (k := (343 + i22)) hn22 hP (by omega) (by omega) dMH_rowBy_49 ?_
          refine lv_i2l hx hb dMH_rowBy_50 rfl ?_
          refine lv_lmul hx hb dMH_rowBy_51 ?_
          refine lv_ldc2 (v := (8380417)) hx hb hown (hts _ (wg_t kw_1738)) dMH_rowBy_52 ?_
          refine lv_lrem hx hb dMH_rowBy_55 (by decide) ?_
          refine lv_ladd hx hb dMH_rowBy_56 ?_
          refine ml_eqv (fun y22 ez23 => ?_)
          replace hR := bnd_step hR ez23
          refine lv_lstore (lv' := [(4, .long y22), (6, .int (nI i22)), (3, .int (nI i21)), (0, .ref h0), (1, .int (nI rw)), (2, .ref to)]) hx hb dMH_rowBy_57 hl (by decide) rfl (fun ls hl => ?_)
          refine mi_iinc (k := 1) (x := i22) (d := 1) (y := i22 + 1) (lv' := [(6, .int (nI (i22 + 1))), (4, .long y22), (3, .int (nI i21)), (0, .ref h0), (1, .int (nI rw)), (2, .ref to)]) hx hb dMH_rowBy_59 hl rfl (by decide) rfl (by decide) rfl (fun ls hl => ?_)
          refine lv_goto (tgt := 15) hx hb dMH_rowBy_62 (by decide) ?_
          exact ih22 (i22 + 1) y22 s23 pl ls H locs (by omega) hF hf61 hf62 hf63 hf64 hf65 hf66 hf67 hf68 hR (lv_sub hl [0, 1, 2, 3, 4, 5] rfl) hO hP hD hS
      exact lp22 5 0 0 s21 pl ls _ _ (by omega) hF hf37 hf38 hf39 hf40 hf41 hf42 hf43 hf44 hR (lv_sub hl [0, 1, 2, 3, 4, 5] rfl) hO hP hD hS
  exact lp21 256 0 s pl ls _ _ (by omega) hF e_c0 e_c1 e_c2 e_c3 e_c4 e_c5 e_c6 e_c7 hR (lv_sub hl [0, 1, 2, 3] rfl) hO hP hD hS
def M_MH_rowBy_2 (pt : Nat) (k : Nat) : Prop := k = 370 ∨ k = pt ∨ (0 : Nat) = 1
noncomputable def F_MH_rowBy_2_L1 (rw : Nat) (i21 : Nat) (kk : Nat → Sto → Sto) : Nat → Nat → Int64 → Sto → Sto
  | 0, i22, y21, s23 => bnd ((s23.1 225 25).toNatClampNeg) fun z21 => bnd (sI s23 370 i21 ((y21 - y21 / (8380417) * (8380417)).toInt32)) fun s24 => kk (i21 + 1) s24
  | n22 + 1, i22, y21, s23 => bnd ((s23.1 225 25).toNatClampNeg) fun z22 => bnd ((y21 + ((((s23.1 ((227 + ((8 * rw) + i22))) i21).toInt64) * ((s23.1 ((343 + i22)) i21).toInt64)) - (((s23.1 ((227 + ((8 * rw) + i22))) i21).toInt64) * ((s23.1 ((343 + i22)) i21).toInt64)) / (8380417) * (8380417)))) fun y22 => F_MH_rowBy_2_L1 rw i21 kk n22 (i22 + 1) y22 s23
noncomputable def F_MH_rowBy_2_L0 (rw : Nat) (pt : Nat) : Nat → Nat → Sto → Sto
  | 0, i21, s21 => bnd (F_MR_back_8_0 370 pt s21) fun s22 => s22
  | n21 + 1, i21, s21 => F_MH_rowBy_2_L1 rw i21 (F_MH_rowBy_2_L0 rw pt n21) 7 0 0 s21
noncomputable def F_MH_rowBy_2 (rw : Nat) (pt : Nat) (s : Sto) : Sto := F_MH_rowBy_2_L0 rw pt 256 0 s
set_option maxHeartbeats 8000000 in
set_option maxRecDepth 100000 in
theorem N_MH_rowBy_2 (l : Launch) (g : Gd) (sz : Nat) (T : TyN) (s : Sto) (pl : va_W) (hO : okn g T s pl) (hU : inj T) (h0 to : Nat) (rw : Nat) (pt : Nat) (k_h0 : T h0 = some 225) (k_to : T to = some pt) (n_to : nsp pt = (0, 256, [])) (e_c0 : s.1 225 23 = nI 2) (e_c1 : s.1 225 24 = nI 8) (e_c2 : s.1 225 25 = nI 7) (e_c3 : s.1 225 26 = nI 2) (e_c4 : s.1 225 27 = nI 524288) (e_c5 : s.1 225 28 = nI 261888) (e_c6 : s.1 225 29 = nI 120) (e_c7 : s.1 225 30 = nI 64) (h1 : rw < 8)  : Met l y_MH_rowBy w_MH_rowBy ({ frames := 1, cells := 0, slots := 0, locals := 28 } : Room) (va_Pc [.ref h0, .int (nI rw), .ref to] (pr (en g) g.1 vcl sz ([] ++ pl))) (va_Qv (fun (u : (Sto) × va_W) => (u.1 = F_MH_rowBy_2 rw pt s ∧ frm (M_MH_rowBy_2 pt) s u.1 ∧ True) ∧ okn g T u.1 u.2) (po g.1 vcl (va_A ([] ++ pl) sz) (fun (u : (Sto) × va_W) => [] ++ u.2)) (va_A ([] ++ pl) sz)) 0 0 (va_A ([] ++ pl) sz) := by
  refine mc_entry (cc := c_MH_rowBy) (maxL := 7) (ret := none) (by decide) rfl (Nat.le_of_ble_eq_true rfl) ?_
  intro p e s0 m args below meth c ls F hr hlk hnm hsz hP hD hE hA hl
  obtain ⟨hx, hb, hml, hown, hts⟩ := id F
  have hK := hE.1
  generalize va_A ([] ++ pl) sz = A at hD hE hA ⊢
  have hS : va_S A s0.heap s0.heap [] := va_S.rf
  have hl : lv_has ls 7 [(0, .ref h0), (1, .int (nI rw)), (2, .ref to)] := hl
  have hR : F_MH_rowBy_2 rw pt s = F_MH_rowBy_2 rw pt s := rfl
  have hF : frm (M_MH_rowBy_2 pt) s s := frm_rf
  have ne_172_pt : 172 ≠ pt := nsp_ne (p := 172) rfl n_to (show (5 : Nat) ≠ 0 by decide)
  have ne_225_pt : 225 ≠ pt := nsp_ne (p := 225) rfl n_to (show (5 : Nat) ≠ 0 by decide)
  refine lv_iconst (v := nI 0) hx hb dMH_rowBy_0 (by decide) ?_
  refine lv_istore_n (lv' := [(3, .int (nI 0)), (0, .ref h0), (1, .int (nI rw)), (2, .ref to)]) hx hb dMH_rowBy_1 rfl hl (by decide) rfl (fun ls hl => ?_)
  have lp21 : ∀ (n21 : Nat) (i21 : Nat) (s21 : Sto) (pl : va_W) (ls : Array Slot) (H : Heap) (locs : List Loc), n21 + i21 = 256 → frm (M_MH_rowBy_2 pt) s s21 → s21.1 225 23 = nI 2 → s21.1 225 24 = nI 8 → s21.1 225 25 = nI 7 → s21.1 225 26 = nI 2 → s21.1 225 27 = nI 524288 → s21.1 225 28 = nI 261888 → s21.1 225 29 = nI 120 → s21.1 225 30 = nI 64 → F_MH_rowBy_2 rw pt s = F_MH_rowBy_2_L0 rw pt n21 i21 s21 → lv_has ls 7 [(3, .int (nI i21)), (0, .ref h0), (1, .int (nI rw)), (2, .ref to)] → okn g T s21 pl → va_P g.1 vcl ([] ++ pl) H → va_D A ([] ++ pl) → va_S A s0.heap H locs → W p l e ({ frames := 1, cells := 0, slots := 0, locals := 28 } : Room) s0 m args below meth c H locs 0 0 (MQ below (va_Qv (fun (u : (Sto) × va_W) => (u.1 = F_MH_rowBy_2 rw pt s ∧ frm (M_MH_rowBy_2 pt) s u.1 ∧ True) ∧ okn g T u.1 u.2) (po g.1 vcl A (fun (u : (Sto) × va_W) => [] ++ u.2)) A) args s0 0 0 A) (F0 m 2 ls []) := by
    intro n21
    induction n21 with
    | zero =>
      intro i21 s21 pl ls H locs hm21 hF hf21 hf22 hf23 hf24 hf25 hf26 hf27 hf28 hR hl hO hP hD hS
      refine lv_iload_n hx hb dMH_rowBy_2 rfl (lv_at hl 0 rfl) ?_
      refine lv_sipush (v := nI 256) hx hb dMH_rowBy_3 (by decide) ?_
      refine mi_ge (tgt := 84) hx hb dMH_rowBy_6 (by decide) (by omega) (by omega) (fun h21 => ?_) (fun h21 => absurd h21 (by omega))
      refine lv_aload_n hx hb dMH_rowBy_84 rfl (lv_at hl 1 rfl) ?_
      refine nw_get (C := "LatticeKeysModel$Hands") (TT := T_MH) (N := 31) hx hb hts (wg_ft i_MH) hown hK hO k_h0 (kn := 225) (ci := 12) (fl := [(3, 172), (3, 181), (3, 226), (3, 291), (3, 299), (3, 308), (3, 317), (3, 326), (3, 334), (3, 342), (3, 350), (3, 359), (3, 368), (3, 369), (3, 370), (3, 371), (3, 372), (3, 373), (3, 374), (3, 375), (3, 376), (3, 377), (3, 378), (0, 0), (0, 0), (0, 0), (0, 0), (0, 0), (0, 0), (0, 0), (0, 0)]) rfl hP rfl 1 (by decide) (hts _ (wg_t kw_1433)) (fun _ h9 => h9) (cd := (3, 181)) rfl dMH_rowBy_85 (fun v21 hv21 => ?_)
      obtain ⟨r21, rfl, kr21⟩ := (show ∃ r : Nat, v21 = .ref r ∧ T r = some 181 from hv21)
      refine lv_aload_n hx hb dMH_rowBy_88 rfl (lv_at hl 1 rfl) ?_
      refine nw_get (C := "LatticeKeysModel$Hands") (TT := T_MH) (N := 31) hx hb hts (wg_ft i_MH) hown hK hO k_h0 (kn := 225) (ci := 12) (fl := [(3, 172), (3, 181), (3, 226), (3, 291), (3, 299), (3, 308), (3, 317), (3, 326), (3, 334), (3, 342), (3, 350), (3, 359), (3, 368), (3, 369), (3, 370), (3, 371), (3, 372), (3, 373), (3, 374), (3, 375), (3, 376), (3, 377), (3, 378), (0, 0), (0, 0), (0, 0), (0, 0), (0, 0), (0, 0), (0, 0), (0, 0)]) rfl hP rfl 14 (by decide) (hts _ (wg_t kw_1446)) (fun _ h9 => h9) (cd := (3, 370)) rfl dMH_rowBy_89 (fun v22 hv22 => ?_)
      obtain ⟨r22, rfl, kr22⟩ := (show ∃ r : Nat, v22 = .ref r ∧ T r = some 370 from hv22)
      refine lv_aload_n hx hb dMH_rowBy_92 rfl (lv_at hl 3 rfl) ?_
      refine lv_iconst (v := nI 1) hx hb dMH_rowBy_93 (by decide) ?_
      refine lv_iconst (v := nI 0) hx hb dMH_rowBy_94 (by decide) ?_
      refine mp_v (cx := []) (wr := []) hP hD hS hA [] [] rfl rfl rfl (by decide) (va_runV (As := [.ref r22, .ref to, .int (nI 1), .int (nI 0)]) (rest := []) F (N_MR_back_8_0 l g _ T s21 pl hO hU r21 r22 to 370 pt kr21 kr22 rfl k_to n_to) (cwV 4 hts (wg_app (wg_c kw_1739 (wg_c kw_1740 (wg_c kw_1741 (wg_c kw_12 wg_n)))) kw_1742) rfl rfl rfl (by decide +kernel) ⟨by decide, by decide⟩) (pn_W "LatticeKeysModel$Ring" (en_ok g) (ci := 10) (kn := 181) (fl := [(1, 8380417), (1, 256), (3, 182), (3, 183), (4, 8347681)]) hK hO kr21 rfl hP hD hS hA hE [] rfl rfl rfl) rfl rfl hl.1 rfl (lv_room (Nat.le_of_ble_eq_true rfl)) dMH_rowBy_95 ⟨by omega, by omega⟩) (fun  u21 H locs hu21 hP hD hS => ?_)
      obtain ⟨s22, pl⟩ := u21
      obtain ⟨⟨eq21, hFc21, -⟩, hO⟩ := hu21
      have hO : okn g T s22 pl := hO
      have hP : va_P g.1 vcl ([] ++ pl) _ := hP
      have hD : va_D _ ([] ++ pl) := hD
      have hFc21 : frm (M_MR_back_8_0 pt) s21 s22 := hFc21
      replace hR := bnd_step hR eq21
      have hF := frm_tr hF hFc21 (fun k hk => by unfold M_MR_back_8_0 at hk; unfold M_MH_rowBy_2; omega)
      have hf29 : s22.1 225 23 = nI 2 := fc_F hf21 hFc21 (by unfold M_MR_back_8_0; omega)
      have hf30 : s22.1 225 24 = nI 8 := fc_F hf22 hFc21 (by unfold M_MR_back_8_0; omega)
      have hf31 : s22.1 225 25 = nI 7 := fc_F hf23 hFc21 (by unfold M_MR_back_8_0; omega)
      have hf32 : s22.1 225 26 = nI 2 := fc_F hf24 hFc21 (by unfold M_MR_back_8_0; omega)
      have hf33 : s22.1 225 27 = nI 524288 := fc_F hf25 hFc21 (by unfold M_MR_back_8_0; omega)
      have hf34 : s22.1 225 28 = nI 261888 := fc_F hf26 hFc21 (by unfold M_MR_back_8_0; omega)
      have hf35 : s22.1 225 29 = nI 120 := fc_F hf27 hFc21 (by unfold M_MR_back_8_0; omega)
      have hf36 : s22.1 225 30 = nI 64 := fc_F hf28 hFc21 (by unfold M_MR_back_8_0; omega)
      refine W.widen (k := 0) (n := 0) (by omega) (by omega) ?_
      exact mp_vret hx hb hr hlk hP hD hS (s22, pl) ⟨⟨hR.symm, hF, trivial⟩, hO⟩ [] rfl rfl rfl (by omega) (by omega) dMH_rowBy_98
    | succ n21 ih21 =>
      intro i21 s21 pl ls H locs hm21 hF hf37 hf38 hf39 hf40 hf41 hf42 hf43 hf44 hR hl hO hP hD hS
      refine lv_iload_n hx hb dMH_rowBy_2 rfl (lv_at hl 0 rfl) ?_
      refine lv_sipush (v := nI 256) hx hb dMH_rowBy_3 (by decide) ?_
      refine mi_ge (tgt := 84) hx hb dMH_rowBy_6 (by decide) (by omega) (by omega) (fun h22 => absurd h22 (by omega)) (fun h22 => ?_)
      refine lv_lconst (v := 0) hx hb dMH_rowBy_9 (by decide) ?_
      refine lv_lstore (lv' := [(4, .long 0), (3, .int (nI i21)), (0, .ref h0), (1, .int (nI rw)), (2, .ref to)]) hx hb dMH_rowBy_10 hl (by decide) rfl (fun ls hl => ?_)
      refine lv_iconst (v := nI 0) hx hb dMH_rowBy_12 (by decide) ?_
      refine lv_istore (lv' := [(6, .int (nI 0)), (4, .long 0), (3, .int (nI i21)), (0, .ref h0), (1, .int (nI rw)), (2, .ref to)]) hx hb dMH_rowBy_13 hl (by decide) rfl (fun ls hl => ?_)
      have lp22 : ∀ (n22 : Nat) (i22 : Nat) (y21 : Int64) (s23 : Sto) (pl : va_W) (ls : Array Slot) (H : Heap) (locs : List Loc), n22 + i22 = 7 → frm (M_MH_rowBy_2 pt) s s23 → s23.1 225 23 = nI 2 → s23.1 225 24 = nI 8 → s23.1 225 25 = nI 7 → s23.1 225 26 = nI 2 → s23.1 225 27 = nI 524288 → s23.1 225 28 = nI 261888 → s23.1 225 29 = nI 120 → s23.1 225 30 = nI 64 → F_MH_rowBy_2 rw pt s = F_MH_rowBy_2_L1 rw i21 (F_MH_rowBy_2_L0 rw pt n21) n22 i22 y21 s23 → lv_has ls 7 [(6, .int (nI i22)), (4, .long y21), (3, .int (nI i21)), (0, .ref h0), (1, .int (nI rw)), (2, .ref to)] → okn g T s23 pl → va_P g.1 vcl ([] ++ pl) H → va_D A ([] ++ pl) → va_S A s0.heap H locs → W p l e ({ frames := 1, cells := 0, slots := 0, locals := 28 } : Room) s0 m args below meth c H locs 0 0 (MQ below (va_Qv (fun (u : (Sto) × va_W) => (u.1 = F_MH_rowBy_2 rw pt s ∧ frm (M_MH_rowBy_2 pt) s u.1 ∧ True) ∧ okn g T u.1 u.2) (po g.1 vcl A (fun (u : (Sto) × va_W) => [] ++ u.2)) A) args s0 0 0 A) (F0 m 15 ls []) := by
        intro n22
        induction n22 with
        | zero =>
          intro i22 y21 s23 pl ls H locs hm22 hF hf45 hf46 hf47 hf48 hf49 hf50 hf51 hf52 hR hl hO hP hD hS
          refine lv_iload hx hb dMH_rowBy_15 (lv_at hl 0 rfl) ?_
          refine lv_aload_n hx hb dMH_rowBy_17 rfl (lv_at hl 3 rfl) ?_
          refine nw_get (C := "LatticeKeysModel$Hands") (TT := T_MH) (N := 31) hx hb hts (wg_ft i_MH) hown hK hO k_h0 (kn := 225) (ci := 12) (fl := [(3, 172), (3, 181), (3, 226), (3, 291), (3, 299), (3, 308), (3, 317), (3, 326), (3, 334), (3, 342), (3, 350), (3, 359), (3, 368), (3, 369), (3, 370), (3, 371), (3, 372), (3, 373), (3, 374), (3, 375), (3, 376), (3, 377), (3, 378), (0, 0), (0, 0), (0, 0), (0, 0), (0, 0), (0, 0), (0, 0), (0, 0)]) rfl hP rfl 25 (by decide) (hts _ (wg_t kw_1457)) (fun _ h9 => h9) (cd := (0, 0)) rfl dMH_rowBy_18 (fun v23 hv23 => ?_)
          obtain rfl := (show v23 = .int (s23.1 225 25) from hv23)
          obtain ⟨z21, ez21, hz21, hz22⟩ := cl_of (b := 2147483648) hf47 (by omega) (by decide)
          replace hR := bnd_step hR ez21
          refine mi_as hz21 ?_
          subst hz22
          refine mi_ge (tgt := 65) hx hb dMH_rowBy_21 (by decide) (by omega) (by omega) (fun h23 => ?_) (fun h23 => absurd h23 (by omega))
          refine lv_aload_n hx hb dMH_rowBy_65 rfl (lv_at hl 3 rfl) ?_
          refine nw_get (C := "LatticeKeysModel$Hands") (TT := T_MH) (N := 31) hx hb hts (wg_ft i_MH) hown hK hO k_h0 (kn := 225) (ci := 12) (fl := [(3, 172), (3, 181), (3, 226), (3, 291), (3, 299), (3, 308), (3, 317), (3, 326), (3, 334), (3, 342), (3, 350), (3, 359), (3, 368), (3, 369), (3, 370), (3, 371), (3, 372), (3, 373), (3, 374), (3, 375), (3, 376), (3, 377), (3, 378), (0, 0), (0, 0), (0, 0), (0, 0), (0, 0), (0, 0), (0, 0), (0, 0)]) rfl hP rfl 14 (by decide) (hts _ (wg_t kw_1446)) (fun _ h9 => h9) (cd := (3, 370)) rfl dMH_rowBy_66 (fun v24 hv24 => ?_)
          obtain ⟨r23, rfl, kr23⟩ := (show ∃ r : Nat, v24 = .ref r ∧ T r = some 370 from hv24)
          refine lv_iload_n hx hb dMH_rowBy_69 rfl (lv_at hl 2 rfl) ?_
          refine lv_lload hx hb dMH_rowBy_70 (lv_at hl 1 rfl) ?_
          refine lv_ldc2 (v := (8380417)) hx hb hown (hts _ (wg_t kw_1738)) dMH_rowBy_72 ?_
          refine lv_lrem hx hb dMH_rowBy_75 (by decide) ?_
          refine lv_l2i hx hb dMH_rowBy_76 rfl ?_
          refine nw_iast hx hb hK hO hU kr23 (k := 370) rfl hP hD hS (by omega) (by omega) dMH_rowBy_77 (fun s24 pl H locs es21 hO hP hD hS => ?_)
          replace hR := bnd_step hR es21
          have hF := frm_sI hF es21 (by unfold M_MH_rowBy_2; omega)
          have hf53 : s24.1 225 23 = nI 2 := fc_ne hf45 es21 (by omega)
          have hf54 : s24.1 225 24 = nI 8 := fc_ne hf46 es21 (by omega)
          have hf55 : s24.1 225 25 = nI 7 := fc_ne hf47 es21 (by omega)
          have hf56 : s24.1 225 26 = nI 2 := fc_ne hf48 es21 (by omega)
          have hf57 : s24.1 225 27 = nI 524288 := fc_ne hf49 es21 (by omega)
          have hf58 : s24.1 225 28 = nI 261888 := fc_ne hf50 es21 (by omega)
          have hf59 : s24.1 225 29 = nI 120 := fc_ne hf51 es21 (by omega)
          have hf60 : s24.1 225 30 = nI 64 := fc_ne hf52 es21 (by omega)
          refine mi_iinc (k := 2) (x := i21) (d := 1) (y := i21 + 1) (lv' := [(3, .int (nI (i21 + 1))), (6, .int (nI i22)), (4, .long y21), (0, .ref h0), (1, .int (nI rw)), (2, .ref to)]) hx hb dMH_rowBy_78 hl rfl (by decide) rfl (by decide) rfl (fun ls hl => ?_)
          refine lv_goto (tgt := 2) hx hb dMH_rowBy_81 (by decide) ?_
          exact ih21 (i21 + 1) s24 pl ls H locs (by omega) hF hf53 hf54 hf55 hf56 hf57 hf58 hf59 hf60 hR (lv_sub hl [0, 3, 4, 5] rfl) hO hP hD hS
        | succ n22 ih22 =>
          intro i22 y21 s23 pl ls H locs hm22 hF hf61 hf62 hf63 hf64 hf65 hf66 hf67 hf68 hR hl hO hP hD hS
          refine lv_iload hx hb dMH_rowBy_15 (lv_at hl 0 rfl) ?_
          refine lv_aload_n hx hb dMH_rowBy_17 rfl (lv_at hl 3 rfl) ?_
          refine nw_get (C := "LatticeKeysModel$Hands") (TT := T_MH) (N := 31) hx hb hts (wg_ft i_MH) hown hK hO k_h0 (kn := 225) (ci := 12) (fl := [(3, 172), (3, 181), (3, 226), (3, 291), (3, 299), (3, 308), (3, 317), (3, 326), (3, 334), (3, 342), (3, 350), (3, 359), (3, 368), (3, 369), (3, 370), (3, 371), (3, 372), (3, 373), (3, 374), (3, 375), (3, 376), (3, 377), (3, 378), (0, 0), (0, 0), (0, 0), (0, 0), (0, 0), (0, 0), (0, 0), (0, 0)]) rfl hP rfl 25 (by decide) (hts _ (wg_t kw_1457)) (fun _ h9 => h9) (cd := (0, 0)) rfl dMH_rowBy_18 (fun v25 hv25 => ?_)
          obtain rfl := (show v25 = .int (s23.1 225 25) from hv25)
          obtain ⟨z22, ez22, hz23, hz24⟩ := cl_of (b := 2147483648) hf63 (by omega) (by decide)
          replace hR := bnd_step hR ez22
          refine mi_as hz23 ?_
          subst hz24
          refine mi_ge (tgt := 65) hx hb dMH_rowBy_21 (by decide) (by omega) (by omega) (fun h24 => absurd h24 (by omega)) (fun h24 => ?_)
          refine lv_lload hx hb dMH_rowBy_24 (lv_at hl 1 rfl) ?_
          refine lv_aload_n hx hb dMH_rowBy_26 rfl (lv_at hl 3 rfl) ?_
          refine nw_get (C := "LatticeKeysModel$Hands") (TT := T_MH) (N := 31) hx hb hts (wg_ft i_MH) hown hK hO k_h0 (kn := 225) (ci := 12) (fl := [(3, 172), (3, 181), (3, 226), (3, 291), (3, 299), (3, 308), (3, 317), (3, 326), (3, 334), (3, 342), (3, 350), (3, 359), (3, 368), (3, 369), (3, 370), (3, 371), (3, 372), (3, 373), (3, 374), (3, 375), (3, 376), (3, 377), (3, 378), (0, 0), (0, 0), (0, 0), (0, 0), (0, 0), (0, 0), (0, 0), (0, 0)]) rfl hP rfl 2 (by decide) (hts _ (wg_t kw_1434)) (fun _ h9 => h9) (cd := (3, 226)) rfl dMH_rowBy_27 (fun v26 hv26 => ?_)
          obtain ⟨r24, rfl, kr24⟩ := (show ∃ r : Nat, v26 = .ref r ∧ T r = some 226 from hv26)
          refine lv_bipush (v := nI 8) hx hb dMH_rowBy_30 (by decide) ?_
          refine lv_iload_n hx hb dMH_rowBy_32 rfl (lv_at hl 4 rfl) ?_
          refine mi_imul hx hb dMH_rowBy_33 ?_
          refine lv_iload hx hb dMH_rowBy_34 (lv_at hl 0 rfl) ?_
          refine mi_iadd hx hb dMH_rowBy_36 ?_
          refine nw_aald3 hx hb hK hO kr24 (k := 226) (b := 227) rfl hP (by omega) (by omega) dMH_rowBy_37 (fun r25 kr25 => ?_)
          have hn21 : nsp (227 + ((8 * rw) + i22)) = (0, 256, []) := rows_ok 227 64 (by decide) _ (by omega)
          refine lv_iload_n hx hb dMH_rowBy_38 rfl (lv_at hl 2 rfl) ?_
          refine nw_iald hx hb hK hO kr25 (k := (227 + ((8 * rw) + i22))) hn21 hP (by omega) (by omega) dMH_rowBy_39 ?_
          refine lv_i2l hx hb dMH_rowBy_40 rfl ?_
          refine lv_aload_n hx hb dMH_rowBy_41 rfl (lv_at hl 3 rfl) ?_
          refine nw_get (C := "LatticeKeysModel$Hands") (TT := T_MH) (N := 31) hx hb hts (wg_ft i_MH) hown hK hO k_h0 (kn := 225) (ci := 12) (fl := [(3, 172), (3, 181), (3, 226), (3, 291), (3, 299), (3, 308), (3, 317), (3, 326), (3, 334), (3, 342), (3, 350), (3, 359), (3, 368), (3, 369), (3, 370), (3, 371), (3, 372), (3, 373), (3, 374), (3, 375), (3, 376), (3, 377), (3, 378), (0, 0), (0, 0), (0, 0), (0, 0), (0, 0), (0, 0), (0, 0), (0, 0)]) rfl hP rfl 9 (by decide) (hts _ (wg_t kw_1441)) (fun _ h9 => h9) (cd := (3, 342)) rfl dMH_rowBy_42 (fun v27 hv27 => ?_)
          obtain ⟨r26, rfl, kr26⟩ := (show ∃ r : Nat, v27 = .ref r ∧ T r = some 342 from hv27)
          refine lv_iload hx hb dMH_rowBy_45 (lv_at hl 0 rfl) ?_
          refine nw_aald3 hx hb hK hO kr26 (k := 342) (b := 343) rfl hP (by omega) (by omega) dMH_rowBy_47 (fun r27 kr27 => ?_)
          have hn22 : nsp (343 + i22) = (0, 256, []) := rows_ok 343 7 (by decide) _ (by omega)
          refine lv_iload_n hx hb dMH_rowBy_48 rfl (lv_at hl 2 rfl) ?_
          refine nw_iald hx hb hK hO kr27 (k := (343 + i22)) hn22 hP (by omega) (by omega) dMH_rowBy_49 ?_
          refine lv_i2l hx hb dMH_rowBy_50 rfl ?_
          refine lv_lmul hx hb dMH_rowBy_51 ?_
          refine lv_ldc2 (v := (8380417)) hx hb hown (hts _ (wg_t kw_1738)) dMH_rowBy_52 ?_
          refine lv_lrem hx hb dMH_rowBy_55 (by decide) ?_
          refine lv_ladd hx hb dMH_rowBy_56 ?_
          refine ml_eqv (fun y22 ez23 => ?_)
          replace hR := bnd_step hR ez23
          refine lv_lstore (lv' := [(4, .long y22), (6, .int (nI i22)), (3, .int (nI i21)), (0, .ref h0), (1, .int (nI rw)), (2, .ref to)]) hx hb dMH_rowBy_57 hl (by decide) rfl (fun ls hl => ?_)
          refine mi_iinc (k := 1) (x := i22) (d := 1) (y := i22 + 1) (lv' := [(6, .int (nI (i22 + 1))), (4, .long y22), (3, .int (nI i21)), (0, .ref h0), (1, .int (nI rw)), (2, .ref to)]) hx hb dMH_rowBy_59 hl rfl (by decide) rfl (by decide) rfl (fun ls hl => ?_)
          refine lv_goto (tgt := 15) hx hb dMH_rowBy_62 (by decide) ?_
          exact ih22 (i22 + 1) y22 s23 pl ls H locs (by omega) hF hf61 hf62 hf63 hf64 hf65 hf66 hf67 hf68 hR (lv_sub hl [0, 1, 2, 3, 4, 5] rfl) hO hP hD hS
      exact lp22 7 0 0 s21 pl ls _ _ (by omega) hF hf37 hf38 hf39 hf40 hf41 hf42 hf43 hf44 hR (lv_sub hl [0, 1, 2, 3, 4, 5] rfl) hO hP hD hS
  exact lp21 256 0 s pl ls _ _ (by omega) hF e_c0 e_c1 e_c2 e_c3 e_c4 e_c5 e_c6 e_c7 hR (lv_sub hl [0, 1, 2, 3] rfl) hO hP hD hS
def M_MH_turned_0 (pt : Nat) (k : Nat) : Prop := k = pt ∨ (0 : Nat) = 1
noncomputable def F_MH_turned_0_L3 (pf : Nat) (i22 : Nat) (kk : Nat → Sto → Sto) : Nat → Nat → Sto → Sto
  | 0, i24, s26 => kk (i22 + 1) s26
  | n24 + 1, i24, s26 => bnd ((((s26.1 368 i22).toInt64) * ((s26.1 pf i24).toInt64))) fun y22 => if 256 ≤ i22 + i24 then bnd (sL s26 371 ((i22 + i24) - 256) ((s26.2 371 ((i22 + i24) - 256)) - y22)) fun s27 => F_MH_turned_0_L3 pf i22 kk n24 (i24 + 1) s27 else bnd (sL s26 371 (i22 + i24) ((s26.2 371 (i22 + i24)) + y22)) fun s28 => F_MH_turned_0_L3 pf i22 kk n24 (i24 + 1) s28
noncomputable def F_MH_turned_0_L2 (pt : Nat) : Nat → Nat → Sto → Sto
  | 0, i23, s23 => s23
  | n23 + 1, i23, s23 => bnd (((s23.2 371 i23) - (s23.2 371 i23) / (8380417) * (8380417))) fun y21 => if 0 ≤ (lg_cmp y21 0) then bnd (sI s23 pt i23 (y21.toInt32)) fun s24 => F_MH_turned_0_L2 pt n23 (i23 + 1) s24 else bnd (sI s23 pt i23 ((y21 + (8380417)).toInt32)) fun s25 => F_MH_turned_0_L2 pt n23 (i23 + 1) s25
noncomputable def F_MH_turned_0_L1 (pf : Nat) (pt : Nat) : Nat → Nat → Sto → Sto
  | 0, i22, s22 => F_MH_turned_0_L2 pt 256 0 s22
  | n22 + 1, i22, s22 => if (s22.1 368 i22) = 0 then F_MH_turned_0_L1 pf pt n22 (i22 + 1) s22 else F_MH_turned_0_L3 pf i22 (F_MH_turned_0_L1 pf pt n22) 256 0 s22
noncomputable def F_MH_turned_0_L0 (pf : Nat) (pt : Nat) : Nat → Nat → Sto → Sto
  | 0, i21, s21 => F_MH_turned_0_L1 pf pt 256 0 s21
  | n21 + 1, i21, s21 => bnd (sL s21 371 i21 0) fun s29 => F_MH_turned_0_L0 pf pt n21 (i21 + 1) s29
noncomputable def F_MH_turned_0 (pf : Nat) (pt : Nat) (s : Sto) : Sto := F_MH_turned_0_L0 pf pt 256 0 s
set_option maxHeartbeats 8000000 in
set_option maxRecDepth 100000 in
theorem N_MH_turned_0 (l : Launch) (g : Gd) (sz : Nat) (T : TyN) (s : Sto) (pl : va_W) (hO : okn g T s pl) (hU : inj T) (h0 f to : Nat) (pf : Nat) (pt : Nat) (k_h0 : T h0 = some 225) (k_f : T f = some pf) (n_f : nsp pf = (0, 256, [])) (k_to : T to = some pt) (n_to : nsp pt = (0, 256, [])) (e_c0 : s.1 225 23 = nI 0) (e_c1 : s.1 225 24 = nI 4) (e_c2 : s.1 225 25 = nI 4) (e_c3 : s.1 225 26 = nI 2) (e_c4 : s.1 225 27 = nI 131072) (e_c5 : s.1 225 28 = nI 95232) (e_c6 : s.1 225 29 = nI 78) (e_c7 : s.1 225 30 = nI 32)  : Met l y_MH_turned w_MH_turned ({ frames := 0, cells := 0, slots := 0, locals := 0 } : Room) (va_Pc [.ref h0, .ref f, .ref to] (pr (en g) g.1 vcl sz ([] ++ pl))) (va_Qv (fun (u : (Sto) × va_W) => (u.1 = F_MH_turned_0 pf pt s ∧ frm (M_MH_turned_0 pt) s u.1 ∧ True) ∧ okn g T u.1 u.2) (po g.1 vcl (va_A ([] ++ pl) sz) (fun (u : (Sto) × va_W) => [] ++ u.2)) (va_A ([] ++ pl) sz)) 0 0 (va_A ([] ++ pl) sz) := by
  refine mc_entry (cc := c_MH_turned) (maxL := 8) (ret := none) (by decide) rfl (Nat.le_of_ble_eq_true rfl) ?_
  intro p e s0 m args below meth c ls F hr hlk hnm hsz hP hD hE hA hl
  obtain ⟨hx, hb, hml, hown, hts⟩ := id F
  have hK := hE.1
  generalize va_A ([] ++ pl) sz = A at hD hE hA ⊢
  have hS : va_S A s0.heap s0.heap [] := va_S.rf
  have hl : lv_has ls 8 [(0, .ref h0), (1, .ref f), (2, .ref to)] := hl
  have hR : F_MH_turned_0 pf pt s = F_MH_turned_0 pf pt s := rfl
  have hF : frm (M_MH_turned_0 pt) s s := frm_rf
  have ne_172_pf : 172 ≠ pf := nsp_ne (p := 172) rfl n_f (show (5 : Nat) ≠ 0 by decide)
  have ne_172_pt : 172 ≠ pt := nsp_ne (p := 172) rfl n_to (show (5 : Nat) ≠ 0 by decide)
  have ne_225_pf : 225 ≠ pf := nsp_ne (p := 225) rfl n_f (show (5 : Nat) ≠ 0 by decide)
  have ne_225_pt : 225 ≠ pt := nsp_ne (p := 225) rfl n_to (show (5 : Nat) ≠ 0 by decide)
  refine lv_iconst (v := nI 0) hx hb dMH_turned_0 (by decide) ?_
  refine lv_istore_n (lv' := [(3, .int (nI 0)), (0, .ref h0), (1, .ref f), (2, .ref to)]) hx hb dMH_turned_1 rfl hl (by decide) rfl (fun ls hl => ?_)
  have lp21 : ∀ (n21 : Nat) (i21 : Nat) (s21 : Sto) (pl : va_W) (ls : Array Slot) (H : Heap) (locs : List Loc), n21 + i21 = 256 → frm (M_MH_turned_0 pt) s s21 → s21.1 225 23 = nI 0 → s21.1 225 24 = nI 4 → s21.1 225 25 = nI 4 → s21.1 225 26 = nI 2 → s21.1 225 27 = nI 131072 → s21.1 225 28 = nI 95232 → s21.1 225 29 = nI 78 → s21.1 225 30 = nI 32 → F_MH_turned_0 pf pt s = F_MH_turned_0_L0 pf pt n21 i21 s21 → lv_has ls 8 [(3, .int (nI i21)), (0, .ref h0), (1, .ref f), (2, .ref to)] → okn g T s21 pl → va_P g.1 vcl ([] ++ pl) H → va_D A ([] ++ pl) → va_S A s0.heap H locs → W p l e ({ frames := 0, cells := 0, slots := 0, locals := 0 } : Room) s0 m args below meth c H locs 0 0 (MQ below (va_Qv (fun (u : (Sto) × va_W) => (u.1 = F_MH_turned_0 pf pt s ∧ frm (M_MH_turned_0 pt) s u.1 ∧ True) ∧ okn g T u.1 u.2) (po g.1 vcl A (fun (u : (Sto) × va_W) => [] ++ u.2)) A) args s0 0 0 A) (F0 m 2 ls []) := by
    intro n21
    induction n21 with
    | zero =>
      intro i21 s21 pl ls H locs hm21 hF hf21 hf22 hf23 hf24 hf25 hf26 hf27 hf28 hR hl hO hP hD hS
      refine lv_iload_n hx hb dMH_turned_2 rfl (lv_at hl 0 rfl) ?_
      refine lv_sipush (v := nI 256) hx hb dMH_turned_3 (by decide) ?_
      refine mi_ge (tgt := 22) hx hb dMH_turned_6 (by decide) (by omega) (by omega) (fun h21 => ?_) (fun h21 => absurd h21 (by omega))
      refine lv_iconst (v := nI 0) hx hb dMH_turned_22 (by decide) ?_
      refine lv_istore_n (lv' := [(3, .int (nI 0)), (0, .ref h0), (1, .ref f), (2, .ref to)]) hx hb dMH_turned_23 rfl hl (by decide) rfl (fun ls hl => ?_)
      have lp22 : ∀ (n22 : Nat) (i22 : Nat) (s22 : Sto) (pl : va_W) (ls : Array Slot) (H : Heap) (locs : List Loc), n22 + i22 = 256 → frm (M_MH_turned_0 pt) s s22 → s22.1 225 23 = nI 0 → s22.1 225 24 = nI 4 → s22.1 225 25 = nI 4 → s22.1 225 26 = nI 2 → s22.1 225 27 = nI 131072 → s22.1 225 28 = nI 95232 → s22.1 225 29 = nI 78 → s22.1 225 30 = nI 32 → F_MH_turned_0 pf pt s = F_MH_turned_0_L1 pf pt n22 i22 s22 → lv_has ls 8 [(3, .int (nI i22)), (0, .ref h0), (1, .ref f), (2, .ref to)] → okn g T s22 pl → va_P g.1 vcl ([] ++ pl) H → va_D A ([] ++ pl) → va_S A s0.heap H locs → W p l e ({ frames := 0, cells := 0, slots := 0, locals := 0 } : Room) s0 m args below meth c H locs 0 0 (MQ below (va_Qv (fun (u : (Sto) × va_W) => (u.1 = F_MH_turned_0 pf pt s ∧ frm (M_MH_turned_0 pt) s u.1 ∧ True) ∧ okn g T u.1 u.2) (po g.1 vcl A (fun (u : (Sto) × va_W) => [] ++ u.2)) A) args s0 0 0 A) (F0 m 24 ls []) := by
        intro n22
        induction n22 with
        | zero =>
          intro i22 s22 pl ls H locs hm22 hF hf29 hf30 hf31 hf32 hf33 hf34 hf35 hf36 hR hl hO hP hD hS
          refine lv_iload_n hx hb dMH_turned_24 rfl (lv_at hl 0 rfl) ?_
          refine lv_sipush (v := nI 256) hx hb dMH_turned_25 (by decide) ?_
          refine mi_ge (tgt := 126) hx hb dMH_turned_28 (by decide) (by omega) (by omega) (fun h22 => ?_) (fun h22 => absurd h22 (by omega))
          refine lv_iconst (v := nI 0) hx hb dMH_turned_126 (by decide) ?_
          refine lv_istore_n (lv' := [(3, .int (nI 0)), (0, .ref h0), (1, .ref f), (2, .ref to)]) hx hb dMH_turned_127 rfl hl (by decide) rfl (fun ls hl => ?_)
          have lp23 : ∀ (n23 : Nat) (i23 : Nat) (s23 : Sto) (pl : va_W) (ls : Array Slot) (H : Heap) (locs : List Loc), n23 + i23 = 256 → frm (M_MH_turned_0 pt) s s23 → s23.1 225 23 = nI 0 → s23.1 225 24 = nI 4 → s23.1 225 25 = nI 4 → s23.1 225 26 = nI 2 → s23.1 225 27 = nI 131072 → s23.1 225 28 = nI 95232 → s23.1 225 29 = nI 78 → s23.1 225 30 = nI 32 → F_MH_turned_0 pf pt s = F_MH_turned_0_L2 pt n23 i23 s23 → lv_has ls 8 [(3, .int (nI i23)), (0, .ref h0), (2, .ref to)] → okn g T s23 pl → va_P g.1 vcl ([] ++ pl) H → va_D A ([] ++ pl) → va_S A s0.heap H locs → W p l e ({ frames := 0, cells := 0, slots := 0, locals := 0 } : Room) s0 m args below meth c H locs 0 0 (MQ below (va_Qv (fun (u : (Sto) × va_W) => (u.1 = F_MH_turned_0 pf pt s ∧ frm (M_MH_turned_0 pt) s u.1 ∧ True) ∧ okn g T u.1 u.2) (po g.1 vcl A (fun (u : (Sto) × va_W) => [] ++ u.2)) A) args s0 0 0 A) (F0 m 128 ls []) := by
            intro n23
            induction n23 with
            | zero =>
              intro i23 s23 pl ls H locs hm23 hF hf37 hf38 hf39 hf40 hf41 hf42 hf43 hf44 hR hl hO hP hD hS
              refine lv_iload_n hx hb dMH_turned_128 rfl (lv_at hl 0 rfl) ?_
              refine lv_sipush (v := nI 256) hx hb dMH_turned_129 (by decide) ?_
              refine mi_ge (tgt := 175) hx hb dMH_turned_132 (by decide) (by omega) (by omega) (fun h23 => ?_) (fun h23 => absurd h23 (by omega))
              exact mp_vret hx hb hr hlk hP hD hS (s23, pl) ⟨⟨hR.symm, hF, trivial⟩, hO⟩ [] rfl rfl rfl (by omega) (by omega) dMH_turned_175
            | succ n23 ih23 =>
              intro i23 s23 pl ls H locs hm23 hF hf45 hf46 hf47 hf48 hf49 hf50 hf51 hf52 hR hl hO hP hD hS
              refine lv_iload_n hx hb dMH_turned_128 rfl (lv_at hl 0 rfl) ?_
              refine lv_sipush (v := nI 256) hx hb dMH_turned_129 (by decide) ?_
              refine mi_ge (tgt := 175) hx hb dMH_turned_132 (by decide) (by omega) (by omega) (fun h24 => absurd h24 (by omega)) (fun h24 => ?_)
              refine lv_aload_n hx hb dMH_turned_135 rfl (lv_at hl 1 rfl) ?_
              refine nw_get (C := "LatticeKeysModel$Hands") (TT := T_MH) (N := 31) hx hb hts (wg_ft i_MH) hown hK hO k_h0 (kn := 225) (ci := 12) (fl := [(3, 172), (3, 181), (3, 226), (3, 291), (3, 299), (3, 308), (3, 317), (3, 326), (3, 334), (3, 342), (3, 350), (3, 359), (3, 368), (3, 369), (3, 370), (3, 371), (3, 372), (3, 373), (3, 374), (3, 375), (3, 376), (3, 377), (3, 378), (0, 0), (0, 0), (0, 0), (0, 0), (0, 0), (0, 0), (0, 0), (0, 0)]) rfl hP rfl 15 (by decide) (hts _ (wg_t kw_1447)) (fun _ h9 => h9) (cd := (3, 371)) rfl dMH_turned_136 (fun v21 hv21 => ?_)
              obtain ⟨r21, rfl, kr21⟩ := (show ∃ r : Nat, v21 = .ref r ∧ T r = some 371 from hv21)
              refine lv_iload_n hx hb dMH_turned_139 rfl (lv_at hl 0 rfl) ?_
              refine nw_lald hx hb hK hO kr21 (k := 371) rfl hP (by omega) (by omega) dMH_turned_140 ?_
              refine lv_ldc2 (v := (8380417)) hx hb hown (hts _ (wg_t kw_1738)) dMH_turned_141 ?_
              refine lv_lrem hx hb dMH_turned_144 (by decide) ?_
              refine ml_eqv (fun y21 ez21 => ?_)
              replace hR := bnd_step hR ez21
              refine lv_lstore (lv' := [(4, .long y21), (3, .int (nI i23)), (0, .ref h0), (2, .ref to)]) hx hb dMH_turned_145 hl (by decide) rfl (fun ls hl => ?_)
              refine lv_aload_n hx hb dMH_turned_147 rfl (lv_at hl 3 rfl) ?_
              refine lv_iload_n hx hb dMH_turned_148 rfl (lv_at hl 1 rfl) ?_
              refine lv_lload hx hb dMH_turned_149 (lv_at hl 0 rfl) ?_
              refine lv_lconst (v := 0) hx hb dMH_turned_151 (by decide) ?_
              refine W.lcmp hx hb dMH_turned_152 ?_
              refine lv_if_ge (tgt := 165) hx hb dMH_turned_153 (by decide) (fun h25 => ?_) (fun h25 => ?_)
              · replace hR := hR.trans (if_pos h25)
                refine lv_lload hx hb dMH_turned_165 (lv_at hl 0 rfl) ?_
                refine lv_l2i hx hb dMH_turned_167 rfl ?_
                refine nw_iast hx hb hK hO hU k_to (k := pt) n_to hP hD hS (by omega) (by omega) dMH_turned_168 (fun s24 pl H locs es21 hO hP hD hS => ?_)
                replace hR := bnd_step hR es21
                have hF := frm_sI hF es21 (by unfold M_MH_turned_0; omega)
                have hf53 : s24.1 225 23 = nI 0 := fc_ne hf45 es21 (by omega)
                have hf54 : s24.1 225 24 = nI 4 := fc_ne hf46 es21 (by omega)
                have hf55 : s24.1 225 25 = nI 4 := fc_ne hf47 es21 (by omega)
                have hf56 : s24.1 225 26 = nI 2 := fc_ne hf48 es21 (by omega)
                have hf57 : s24.1 225 27 = nI 131072 := fc_ne hf49 es21 (by omega)
                have hf58 : s24.1 225 28 = nI 95232 := fc_ne hf50 es21 (by omega)
                have hf59 : s24.1 225 29 = nI 78 := fc_ne hf51 es21 (by omega)
                have hf60 : s24.1 225 30 = nI 32 := fc_ne hf52 es21 (by omega)
                refine mi_iinc (k := 1) (x := i23) (d := 1) (y := i23 + 1) (lv' := [(3, .int (nI (i23 + 1))), (4, .long y21), (0, .ref h0), (2, .ref to)]) hx hb dMH_turned_169 hl rfl (by decide) rfl (by decide) rfl (fun ls hl => ?_)
                refine lv_goto (tgt := 128) hx hb dMH_turned_172 (by decide) ?_
                exact ih23 (i23 + 1) s24 pl ls H locs (by omega) hF hf53 hf54 hf55 hf56 hf57 hf58 hf59 hf60 hR (lv_sub hl [0, 2, 3] rfl) hO hP hD hS
              · replace hR := hR.trans (if_neg h25)
                refine lv_lload hx hb dMH_turned_156 (lv_at hl 0 rfl) ?_
                refine lv_ldc2 (v := (8380417)) hx hb hown (hts _ (wg_t kw_1738)) dMH_turned_158 ?_
                refine lv_ladd hx hb dMH_turned_161 ?_
                refine lv_goto (tgt := 167) hx hb dMH_turned_162 (by decide) ?_
                refine lv_l2i hx hb dMH_turned_167 rfl ?_
                refine nw_iast hx hb hK hO hU k_to (k := pt) n_to hP hD hS (by omega) (by omega) dMH_turned_168 (fun s25 pl H locs es22 hO hP hD hS => ?_)
                replace hR := bnd_step hR es22
                have hF := frm_sI hF es22 (by unfold M_MH_turned_0; omega)
                have hf61 : s25.1 225 23 = nI 0 := fc_ne hf45 es22 (by omega)
                have hf62 : s25.1 225 24 = nI 4 := fc_ne hf46 es22 (by omega)
                have hf63 : s25.1 225 25 = nI 4 := fc_ne hf47 es22 (by omega)
                have hf64 : s25.1 225 26 = nI 2 := fc_ne hf48 es22 (by omega)
                have hf65 : s25.1 225 27 = nI 131072 := fc_ne hf49 es22 (by omega)
                have hf66 : s25.1 225 28 = nI 95232 := fc_ne hf50 es22 (by omega)
                have hf67 : s25.1 225 29 = nI 78 := fc_ne hf51 es22 (by omega)
                have hf68 : s25.1 225 30 = nI 32 := fc_ne hf52 es22 (by omega)
                refine mi_iinc (k := 1) (x := i23) (d := 1) (y := i23 + 1) (lv' := [(3, .int (nI (i23 + 1))), (4, .long y21), (0, .ref h0), (2, .ref to)]) hx hb dMH_turned_169 hl rfl (by decide) rfl (by decide) rfl (fun ls hl => ?_)
                refine lv_goto (tgt := 128) hx hb dMH_turned_172 (by decide) ?_
                exact ih23 (i23 + 1) s25 pl ls H locs (by omega) hF hf61 hf62 hf63 hf64 hf65 hf66 hf67 hf68 hR (lv_sub hl [0, 2, 3] rfl) hO hP hD hS
          exact lp23 256 0 s22 pl ls _ _ (by omega) hF hf29 hf30 hf31 hf32 hf33 hf34 hf35 hf36 hR (lv_sub hl [0, 1, 3] rfl) hO hP hD hS
        | succ n22 ih22 =>
          intro i22 s22 pl ls H locs hm22 hF hf69 hf70 hf71 hf72 hf73 hf74 hf75 hf76 hR hl hO hP hD hS
          refine lv_iload_n hx hb dMH_turned_24 rfl (lv_at hl 0 rfl) ?_
          refine lv_sipush (v := nI 256) hx hb dMH_turned_25 (by decide) ?_
          refine mi_ge (tgt := 126) hx hb dMH_turned_28 (by decide) (by omega) (by omega) (fun h26 => absurd h26 (by omega)) (fun h26 => ?_)
          refine lv_aload_n hx hb dMH_turned_31 rfl (lv_at hl 1 rfl) ?_
          refine nw_get (C := "LatticeKeysModel$Hands") (TT := T_MH) (N := 31) hx hb hts (wg_ft i_MH) hown hK hO k_h0 (kn := 225) (ci := 12) (fl := [(3, 172), (3, 181), (3, 226), (3, 291), (3, 299), (3, 308), (3, 317), (3, 326), (3, 334), (3, 342), (3, 350), (3, 359), (3, 368), (3, 369), (3, 370), (3, 371), (3, 372), (3, 373), (3, 374), (3, 375), (3, 376), (3, 377), (3, 378), (0, 0), (0, 0), (0, 0), (0, 0), (0, 0), (0, 0), (0, 0), (0, 0)]) rfl hP rfl 12 (by decide) (hts _ (wg_t kw_1444)) (fun _ h9 => h9) (cd := (3, 368)) rfl dMH_turned_32 (fun v22 hv22 => ?_)
          obtain ⟨r22, rfl, kr22⟩ := (show ∃ r : Nat, v22 = .ref r ∧ T r = some 368 from hv22)
          refine lv_iload_n hx hb dMH_turned_35 rfl (lv_at hl 0 rfl) ?_
          refine nw_iald hx hb hK hO kr22 (k := 368) rfl hP (by omega) (by omega) dMH_turned_36 ?_
          refine lv_if_ne (tgt := 43) hx hb dMH_turned_37 (by decide) (fun h27 => ?_) (fun h27 => ?_)
          · replace hR := hR.trans (if_neg h27)
            refine lv_iconst (v := nI 0) hx hb dMH_turned_43 (by decide) ?_
            refine lv_istore (lv' := [(4, .int (nI 0)), (3, .int (nI i22)), (0, .ref h0), (1, .ref f), (2, .ref to)]) hx hb dMH_turned_44 hl (by decide) rfl (fun ls hl => ?_)
            have lp24 : ∀ (n24 : Nat) (i24 : Nat) (s26 : Sto) (pl : va_W) (ls : Array Slot) (H : Heap) (locs : List Loc), n24 + i24 = 256 → frm (M_MH_turned_0 pt) s s26 → s26.1 225 23 = nI 0 → s26.1 225 24 = nI 4 → s26.1 225 25 = nI 4 → s26.1 225 26 = nI 2 → s26.1 225 27 = nI 131072 → s26.1 225 28 = nI 95232 → s26.1 225 29 = nI 78 → s26.1 225 30 = nI 32 → F_MH_turned_0 pf pt s = F_MH_turned_0_L3 pf i22 (F_MH_turned_0_L1 pf pt n22) n24 i24 s26 → lv_has ls 8 [(4, .int (nI i24)), (3, .int (nI i22)), (0, .ref h0), (1, .ref f), (2, .ref to)] → okn g T s26 pl → va_P g.1 vcl ([] ++ pl) H → va_D A ([] ++ pl) → va_S A s0.heap H locs → W p l e ({ frames := 0, cells := 0, slots := 0, locals := 0 } : Room) s0 m args below meth c H locs 0 0 (MQ below (va_Qv (fun (u : (Sto) × va_W) => (u.1 = F_MH_turned_0 pf pt s ∧ frm (M_MH_turned_0 pt) s u.1 ∧ True) ∧ okn g T u.1 u.2) (po g.1 vcl A (fun (u : (Sto) × va_W) => [] ++ u.2)) A) args s0 0 0 A) (F0 m 46 ls []) := by
              intro n24
              induction n24 with
              | zero =>
                intro i24 s26 pl ls H locs hm24 hF hf77 hf78 hf79 hf80 hf81 hf82 hf83 hf84 hR hl hO hP hD hS
                refine lv_iload hx hb dMH_turned_46 (lv_at hl 0 rfl) ?_
                refine lv_sipush (v := nI 256) hx hb dMH_turned_48 (by decide) ?_
                refine mi_ge (tgt := 120) hx hb dMH_turned_51 (by decide) (by omega) (by omega) (fun h28 => ?_) (fun h28 => absurd h28 (by omega))
                refine mi_iinc (k := 1) (x := i22) (d := 1) (y := i22 + 1) (lv' := [(3, .int (nI (i22 + 1))), (4, .int (nI i24)), (0, .ref h0), (1, .ref f), (2, .ref to)]) hx hb dMH_turned_120 hl rfl (by decide) rfl (by decide) rfl (fun ls hl => ?_)
                refine lv_goto (tgt := 24) hx hb dMH_turned_123 (by decide) ?_
                exact ih22 (i22 + 1) s26 pl ls H locs (by omega) hF hf77 hf78 hf79 hf80 hf81 hf82 hf83 hf84 hR (lv_sub hl [0, 2, 3, 4] rfl) hO hP hD hS
              | succ n24 ih24 =>
                intro i24 s26 pl ls H locs hm24 hF hf85 hf86 hf87 hf88 hf89 hf90 hf91 hf92 hR hl hO hP hD hS
                refine lv_iload hx hb dMH_turned_46 (lv_at hl 0 rfl) ?_
                refine lv_sipush (v := nI 256) hx hb dMH_turned_48 (by decide) ?_
                refine mi_ge (tgt := 120) hx hb dMH_turned_51 (by decide) (by omega) (by omega) (fun h29 => absurd h29 (by omega)) (fun h29 => ?_)
                refine lv_iload_n hx hb dMH_turned_54 rfl (lv_at hl 1 rfl) ?_
                refine lv_iload hx hb dMH_turned_55 (lv_at hl 0 rfl) ?_
                refine mi_iadd hx hb dMH_turned_57 ?_
                refine lv_istore (lv' := [(5, .int (nI (i22 + i24))), (4, .int (nI i24)), (3, .int (nI i22)), (0, .ref h0), (1, .ref f), (2, .ref to)]) hx hb dMH_turned_58 hl (by decide) rfl (fun ls hl => ?_)
                refine lv_aload_n hx hb dMH_turned_60 rfl (lv_at hl 3 rfl) ?_
                refine nw_get (C := "LatticeKeysModel$Hands") (TT := T_MH) (N := 31) hx hb hts (wg_ft i_MH) hown hK hO k_h0 (kn := 225) (ci := 12) (fl := [(3, 172), (3, 181), (3, 226), (3, 291), (3, 299), (3, 308), (3, 317), (3, 326), (3, 334), (3, 342), (3, 350), (3, 359), (3, 368), (3, 369), (3, 370), (3, 371), (3, 372), (3, 373), (3, 374), (3, 375), (3, 376), (3, 377), (3, 378), (0, 0), (0, 0), (0, 0), (0, 0), (0, 0), (0, 0), (0, 0), (0, 0)]) rfl hP rfl 12 (by decide) (hts _ (wg_t kw_1444)) (fun _ h9 => h9) (cd := (3, 368)) rfl dMH_turned_61 (fun v23 hv23 => ?_)
                obtain ⟨r23, rfl, kr23⟩ := (show ∃ r : Nat, v23 = .ref r ∧ T r = some 368 from hv23)
                refine lv_iload_n hx hb dMH_turned_64 rfl (lv_at hl 2 rfl) ?_
                refine nw_iald hx hb hK hO kr23 (k := 368) rfl hP (by omega) (by omega) dMH_turned_65 ?_
                refine lv_i2l hx hb dMH_turned_66 rfl ?_
                refine lv_aload_n hx hb dMH_turned_67 rfl (lv_at hl 4 rfl) ?_
                refine lv_iload hx hb dMH_turned_68 (lv_at hl 1 rfl) ?_
                refine nw_iald hx hb hK hO k_f (k := pf) n_f hP (by omega) (by omega) dMH_turned_70 ?_
                refine lv_i2l hx hb dMH_turned_71 rfl ?_
                refine lv_lmul hx hb dMH_turned_72 ?_
                refine ml_eqv (fun y22 ez22 => ?_)
                replace hR := bnd_step hR ez22
                refine lv_lstore (lv' := [(6, .long y22), (5, .int (nI (i22 + i24))), (4, .int (nI i24)), (3, .int (nI i22)), (0, .ref h0), (1, .ref f), (2, .ref to)]) hx hb dMH_turned_73 hl (by decide) rfl (fun ls hl => ?_)
                refine lv_iload hx hb dMH_turned_75 (lv_at hl 1 rfl) ?_
                refine lv_sipush (v := nI 256) hx hb dMH_turned_77 (by decide) ?_
                refine mi_ge (tgt := 98) hx hb dMH_turned_80 (by decide) (by omega) (by omega) (fun h30 => ?_) (fun h30 => ?_)
                · replace hR := hR.trans (if_pos h30)
                  refine lv_aload_n hx hb dMH_turned_98 rfl (lv_at hl 4 rfl) ?_
                  refine nw_get (C := "LatticeKeysModel$Hands") (TT := T_MH) (N := 31) hx hb hts (wg_ft i_MH) hown hK hO k_h0 (kn := 225) (ci := 12) (fl := [(3, 172), (3, 181), (3, 226), (3, 291), (3, 299), (3, 308), (3, 317), (3, 326), (3, 334), (3, 342), (3, 350), (3, 359), (3, 368), (3, 369), (3, 370), (3, 371), (3, 372), (3, 373), (3, 374), (3, 375), (3, 376), (3, 377), (3, 378), (0, 0), (0, 0), (0, 0), (0, 0), (0, 0), (0, 0), (0, 0), (0, 0)]) rfl hP rfl 15 (by decide) (hts _ (wg_t kw_1447)) (fun _ h9 => h9) (cd := (3, 371)) rfl dMH_turned_99 (fun v24 hv24 => ?_)
                  obtain ⟨r24, rfl, kr24⟩ := (show ∃ r : Nat, v24 = .ref r ∧ T r = some 371 from hv24)
                  refine lv_iload hx hb dMH_turned_102 (lv_at hl 1 rfl) ?_
                  refine lv_sipush (v := nI 256) hx hb dMH_turned_104 (by decide) ?_
                  refine mi_isub hx hb dMH_turned_107 (by omega) ?_
                  refine lv_dup2_11 hx hb dMH_turned_108 rfl rfl ?_
                  refine nw_lald hx hb hK hO kr24 (k := 371) rfl hP (by omega) (by omega) dMH_turned_109 ?_
                  refine lv_lload hx hb dMH_turned_110 (lv_at hl 0 rfl) ?_
                  refine lv_lsub hx hb dMH_turned_112 ?_
                  refine nw_last hx hb hK hO hU kr24 (k := 371) rfl hP hD hS (by omega) (by omega) dMH_turned_113 (fun s27 pl H locs es23 hO hP hD hS => ?_)
                  replace hR := bnd_step hR es23
                  have hF := frm_sL hF es23
                  have hf93 : s27.1 225 23 = nI 0 := fc_L hf85 es23
                  have hf94 : s27.1 225 24 = nI 4 := fc_L hf86 es23
                  have hf95 : s27.1 225 25 = nI 4 := fc_L hf87 es23
                  have hf96 : s27.1 225 26 = nI 2 := fc_L hf88 es23
                  have hf97 : s27.1 225 27 = nI 131072 := fc_L hf89 es23
                  have hf98 : s27.1 225 28 = nI 95232 := fc_L hf90 es23
                  have hf99 : s27.1 225 29 = nI 78 := fc_L hf91 es23
                  have hf100 : s27.1 225 30 = nI 32 := fc_L hf92 es23
                  refine mi_iinc (k := 2) (x := i24) (d := 1) (y := i24 + 1) (lv' := [(4, .int (nI (i24 + 1))), (6, .long y22), (5, .int (nI (i22 + i24))), (3, .int (nI i22)), (0, .ref h0), (1, .ref f), (2, .ref to)]) hx hb dMH_turned_114 hl rfl (by decide) rfl (by decide) rfl (fun ls hl => ?_)
                  refine lv_goto (tgt := 46) hx hb dMH_turned_117 (by decide) ?_
                  exact ih24 (i24 + 1) s27 pl ls H locs (by omega) hF hf93 hf94 hf95 hf96 hf97 hf98 hf99 hf100 hR (lv_sub hl [0, 3, 4, 5, 6] rfl) hO hP hD hS
                · replace hR := hR.trans (if_neg (Nat.not_le.mpr h30))
                  refine lv_aload_n hx hb dMH_turned_83 rfl (lv_at hl 4 rfl) ?_
                  refine nw_get (C := "LatticeKeysModel$Hands") (TT := T_MH) (N := 31) hx hb hts (wg_ft i_MH) hown hK hO k_h0 (kn := 225) (ci := 12) (fl := [(3, 172), (3, 181), (3, 226), (3, 291), (3, 299), (3, 308), (3, 317), (3, 326), (3, 334), (3, 342), (3, 350), (3, 359), (3, 368), (3, 369), (3, 370), (3, 371), (3, 372), (3, 373), (3, 374), (3, 375), (3, 376), (3, 377), (3, 378), (0, 0), (0, 0), (0, 0), (0, 0), (0, 0), (0, 0), (0, 0), (0, 0)]) rfl hP rfl 15 (by decide) (hts _ (wg_t kw_1447)) (fun _ h9 => h9) (cd := (3, 371)) rfl dMH_turned_84 (fun v25 hv25 => ?_)
                  obtain ⟨r25, rfl, kr25⟩ := (show ∃ r : Nat, v25 = .ref r ∧ T r = some 371 from hv25)
                  refine lv_iload hx hb dMH_turned_87 (lv_at hl 1 rfl) ?_
                  refine lv_dup2_11 hx hb dMH_turned_89 rfl rfl ?_
                  refine nw_lald hx hb hK hO kr25 (k := 371) rfl hP (by omega) (by omega) dMH_turned_90 ?_
                  refine lv_lload hx hb dMH_turned_91 (lv_at hl 0 rfl) ?_
                  refine lv_ladd hx hb dMH_turned_93 ?_
                  refine nw_last hx hb hK hO hU kr25 (k := 371) rfl hP hD hS (by omega) (by omega) dMH_turned_94 (fun s28 pl H locs es24 hO hP hD hS => ?_)
                  replace hR := bnd_step hR es24
                  have hF := frm_sL hF es24
                  have hf101 : s28.1 225 23 = nI 0 := fc_L hf85 es24
                  have hf102 : s28.1 225 24 = nI 4 := fc_L hf86 es24
                  have hf103 : s28.1 225 25 = nI 4 := fc_L hf87 es24
                  have hf104 : s28.1 225 26 = nI 2 := fc_L hf88 es24
                  have hf105 : s28.1 225 27 = nI 131072 := fc_L hf89 es24
                  have hf106 : s28.1 225 28 = nI 95232 := fc_L hf90 es24
                  have hf107 : s28.1 225 29 = nI 78 := fc_L hf91 es24
                  have hf108 : s28.1 225 30 = nI 32 := fc_L hf92 es24
                  refine lv_goto (tgt := 114) hx hb dMH_turned_95 (by decide) ?_
                  refine mi_iinc (k := 2) (x := i24) (d := 1) (y := i24 + 1) (lv' := [(4, .int (nI (i24 + 1))), (6, .long y22), (5, .int (nI (i22 + i24))), (3, .int (nI i22)), (0, .ref h0), (1, .ref f), (2, .ref to)]) hx hb dMH_turned_114 hl rfl (by decide) rfl (by decide) rfl (fun ls hl => ?_)
                  refine lv_goto (tgt := 46) hx hb dMH_turned_117 (by decide) ?_
                  exact ih24 (i24 + 1) s28 pl ls H locs (by omega) hF hf101 hf102 hf103 hf104 hf105 hf106 hf107 hf108 hR (lv_sub hl [0, 3, 4, 5, 6] rfl) hO hP hD hS
            exact lp24 256 0 s22 pl ls _ _ (by omega) hF hf69 hf70 hf71 hf72 hf73 hf74 hf75 hf76 hR (lv_sub hl [0, 1, 2, 3, 4] rfl) hO hP hD hS
          · replace hR := hR.trans (if_pos h27)
            refine lv_goto (tgt := 120) hx hb dMH_turned_40 (by decide) ?_
            refine mi_iinc (k := 0) (x := i22) (d := 1) (y := i22 + 1) (lv' := [(3, .int (nI (i22 + 1))), (0, .ref h0), (1, .ref f), (2, .ref to)]) hx hb dMH_turned_120 hl rfl (by decide) rfl (by decide) rfl (fun ls hl => ?_)
            refine lv_goto (tgt := 24) hx hb dMH_turned_123 (by decide) ?_
            exact ih22 (i22 + 1) s22 pl ls H locs (by omega) hF hf69 hf70 hf71 hf72 hf73 hf74 hf75 hf76 hR (lv_sub hl [0, 1, 2, 3] rfl) hO hP hD hS
      exact lp22 256 0 s21 pl ls _ _ (by omega) hF hf21 hf22 hf23 hf24 hf25 hf26 hf27 hf28 hR (lv_sub hl [0, 1, 2, 3] rfl) hO hP hD hS
    | succ n21 ih21 =>
      intro i21 s21 pl ls H locs hm21 hF hf109 hf110 hf111 hf112 hf113 hf114 hf115 hf116 hR hl hO hP hD hS
      refine lv_iload_n hx hb dMH_turned_2 rfl (lv_at hl 0 rfl) ?_
      refine lv_sipush (v := nI 256) hx hb dMH_turned_3 (by decide) ?_
      refine mi_ge (tgt := 22) hx hb dMH_turned_6 (by decide) (by omega) (by omega) (fun h31 => absurd h31 (by omega)) (fun h31 => ?_)
      refine lv_aload_n hx hb dMH_turned_9 rfl (lv_at hl 1 rfl) ?_
      refine nw_get (C := "LatticeKeysModel$Hands") (TT := T_MH) (N := 31) hx hb hts (wg_ft i_MH) hown hK hO k_h0 (kn := 225) (ci := 12) (fl := [(3, 172), (3, 181), (3, 226), (3, 291), (3, 299), (3, 308), (3, 317), (3, 326), (3, 334), (3, 342), (3, 350), (3, 359), (3, 368), (3, 369), (3, 370), (3, 371), (3, 372), (3, 373), (3, 374), (3, 375), (3, 376), (3, 377), (3, 378), (0, 0), (0, 0), (0, 0), (0, 0), (0, 0), (0, 0), (0, 0), (0, 0)]) rfl hP rfl 15 (by decide) (hts _ (wg_t kw_1447)) (fun _ h9 => h9) (cd := (3, 371)) rfl dMH_turned_10 (fun v26 hv26 => ?_)
      obtain ⟨r26, rfl, kr26⟩ := (show ∃ r : Nat, v26 = .ref r ∧ T r = some 371 from hv26)
      refine lv_iload_n hx hb dMH_turned_13 rfl (lv_at hl 0 rfl) ?_
      refine lv_lconst (v := 0) hx hb dMH_turned_14 (by decide) ?_
      refine nw_last hx hb hK hO hU kr26 (k := 371) rfl hP hD hS (by omega) (by omega) dMH_turned_15 (fun s29 pl H locs es25 hO hP hD hS => ?_)
      replace hR := bnd_step hR es25
      have hF := frm_sL hF es25
      have hf117 : s29.1 225 23 = nI 0 := fc_L hf109 es25
      have hf118 : s29.1 225 24 = nI 4 := fc_L hf110 es25
      have hf119 : s29.1 225 25 = nI 4 := fc_L hf111 es25
      have hf120 : s29.1 225 26 = nI 2 := fc_L hf112 es25
      have hf121 : s29.1 225 27 = nI 131072 := fc_L hf113 es25
      have hf122 : s29.1 225 28 = nI 95232 := fc_L hf114 es25
      have hf123 : s29.1 225 29 = nI 78 := fc_L hf115 es25
      have hf124 : s29.1 225 30 = nI 32 := fc_L hf116 es25
      refine mi_iinc (k := 0) (x := i21) (d := 1) (y := i21 + 1) (lv' := [(3, .int (nI (i21 + 1))), (0, .ref h0), (1, .ref f), (2, .ref to)]) hx hb dMH_turned_16 hl rfl (by decide) rfl (by decide) rfl (fun ls hl => ?_)
      refine lv_goto (tgt := 2) hx hb dMH_turned_19 (by decide) ?_
      exact ih21 (i21 + 1) s29 pl ls H locs (by omega) hF hf117 hf118 hf119 hf120 hf121 hf122 hf123 hf124 hR (lv_sub hl [0, 1, 2, 3] rfl) hO hP hD hS
  exact lp21 256 0 s pl ls _ _ (by omega) hF e_c0 e_c1 e_c2 e_c3 e_c4 e_c5 e_c6 e_c7 hR (lv_sub hl [0, 1, 2, 3] rfl) hO hP hD hS
def M_MH_turned_1 (pt : Nat) (k : Nat) : Prop := k = pt ∨ (0 : Nat) = 1
noncomputable def F_MH_turned_1_L3 (pf : Nat) (i22 : Nat) (kk : Nat → Sto → Sto) : Nat → Nat → Sto → Sto
  | 0, i24, s26 => kk (i22 + 1) s26
  | n24 + 1, i24, s26 => bnd ((((s26.1 368 i22).toInt64) * ((s26.1 pf i24).toInt64))) fun y22 => if 256 ≤ i22 + i24 then bnd (sL s26 371 ((i22 + i24) - 256) ((s26.2 371 ((i22 + i24) - 256)) - y22)) fun s27 => F_MH_turned_1_L3 pf i22 kk n24 (i24 + 1) s27 else bnd (sL s26 371 (i22 + i24) ((s26.2 371 (i22 + i24)) + y22)) fun s28 => F_MH_turned_1_L3 pf i22 kk n24 (i24 + 1) s28
noncomputable def F_MH_turned_1_L2 (pt : Nat) : Nat → Nat → Sto → Sto
  | 0, i23, s23 => s23
  | n23 + 1, i23, s23 => bnd (((s23.2 371 i23) - (s23.2 371 i23) / (8380417) * (8380417))) fun y21 => if 0 ≤ (lg_cmp y21 0) then bnd (sI s23 pt i23 (y21.toInt32)) fun s24 => F_MH_turned_1_L2 pt n23 (i23 + 1) s24 else bnd (sI s23 pt i23 ((y21 + (8380417)).toInt32)) fun s25 => F_MH_turned_1_L2 pt n23 (i23 + 1) s25
noncomputable def F_MH_turned_1_L1 (pf : Nat) (pt : Nat) : Nat → Nat → Sto → Sto
  | 0, i22, s22 => F_MH_turned_1_L2 pt 256 0 s22
  | n22 + 1, i22, s22 => if (s22.1 368 i22) = 0 then F_MH_turned_1_L1 pf pt n22 (i22 + 1) s22 else F_MH_turned_1_L3 pf i22 (F_MH_turned_1_L1 pf pt n22) 256 0 s22
noncomputable def F_MH_turned_1_L0 (pf : Nat) (pt : Nat) : Nat → Nat → Sto → Sto
  | 0, i21, s21 => F_MH_turned_1_L1 pf pt 256 0 s21
  | n21 + 1, i21, s21 => bnd (sL s21 371 i21 0) fun s29 => F_MH_turned_1_L0 pf pt n21 (i21 + 1) s29
noncomputable def F_MH_turned_1 (pf : Nat) (pt : Nat) (s : Sto) : Sto := F_MH_turned_1_L0 pf pt 256 0 s
set_option maxHeartbeats 8000000 in
set_option maxRecDepth 100000 in
theorem N_MH_turned_1 (l : Launch) (g : Gd) (sz : Nat) (T : TyN) (s : Sto) (pl : va_W) (hO : okn g T s pl) (hU : inj T) (h0 f to : Nat) (pf : Nat) (pt : Nat) (k_h0 : T h0 = some 225) (k_f : T f = some pf) (n_f : nsp pf = (0, 256, [])) (k_to : T to = some pt) (n_to : nsp pt = (0, 256, [])) (e_c0 : s.1 225 23 = nI 1) (e_c1 : s.1 225 24 = nI 6) (e_c2 : s.1 225 25 = nI 5) (e_c3 : s.1 225 26 = nI 4) (e_c4 : s.1 225 27 = nI 524288) (e_c5 : s.1 225 28 = nI 261888) (e_c6 : s.1 225 29 = nI 196) (e_c7 : s.1 225 30 = nI 48)  : Met l y_MH_turned w_MH_turned ({ frames := 0, cells := 0, slots := 0, locals := 0 } : Room) (va_Pc [.ref h0, .ref f, .ref to] (pr (en g) g.1 vcl sz ([] ++ pl))) (va_Qv (fun (u : (Sto) × va_W) => (u.1 = F_MH_turned_1 pf pt s ∧ frm (M_MH_turned_1 pt) s u.1 ∧ True) ∧ okn g T u.1 u.2) (po g.1 vcl (va_A ([] ++ pl) sz) (fun (u : (Sto) × va_W) => [] ++ u.2)) (va_A ([] ++ pl) sz)) 0 0 (va_A ([] ++ pl) sz) := by
  refine mc_entry (cc := c_MH_turned) (maxL := 8) (ret := none) (by decide) rfl (Nat.le_of_ble_eq_true rfl) ?_
  intro p e s0 m args below meth c ls F hr hlk hnm hsz hP hD hE hA hl
  obtain ⟨hx, hb, hml, hown, hts⟩ := id F
  have hK := hE.1
  generalize va_A ([] ++ pl) sz = A at hD hE hA ⊢
  have hS : va_S A s0.heap s0.heap [] := va_S.rf
  have hl : lv_has ls 8 [(0, .ref h0), (1, .ref f), (2, .ref to)] := hl
  have hR : F_MH_turned_1 pf pt s = F_MH_turned_1 pf pt s := rfl
  have hF : frm (M_MH_turned_1 pt) s s := frm_rf
  have ne_172_pf : 172 ≠ pf := nsp_ne (p := 172) rfl n_f (show (5 : Nat) ≠ 0 by decide)
  have ne_172_pt : 172 ≠ pt := nsp_ne (p := 172) rfl n_to (show (5 : Nat) ≠ 0 by decide)
  have ne_225_pf : 225 ≠ pf := nsp_ne (p := 225) rfl n_f (show (5 : Nat) ≠ 0 by decide)
  have ne_225_pt : 225 ≠ pt := nsp_ne (p := 225) rfl n_to (show (5 : Nat) ≠ 0 by decide)
  refine lv_iconst (v := nI 0) hx hb dMH_turned_0 (by decide) ?_
  refine lv_istore_n (lv' := [(3, .int (nI 0)), (0, .ref h0), (1, .ref f), (2, .ref to)]) hx hb dMH_turned_1 rfl hl (by decide) rfl (fun ls hl => ?_)
  have lp21 : ∀ (n21 : Nat) (i21 : Nat) (s21 : Sto) (pl : va_W) (ls : Array Slot) (H : Heap) (locs : List Loc), n21 + i21 = 256 → frm (M_MH_turned_1 pt) s s21 → s21.1 225 23 = nI 1 → s21.1 225 24 = nI 6 → s21.1 225 25 = nI 5 → s21.1 225 26 = nI 4 → s21.1 225 27 = nI 524288 → s21.1 225 28 = nI 261888 → s21.1 225 29 = nI 196 → s21.1 225 30 = nI 48 → F_MH_turned_1 pf pt s = F_MH_turned_1_L0 pf pt n21 i21 s21 → lv_has ls 8 [(3, .int (nI i21)), (0, .ref h0), (1, .ref f), (2, .ref to)] → okn g T s21 pl → va_P g.1 vcl ([] ++ pl) H → va_D A ([] ++ pl) → va_S A s0.heap H locs → W p l e ({ frames := 0, cells := 0, slots := 0, locals := 0 } : Room) s0 m args below meth c H locs 0 0 (MQ below (va_Qv (fun (u : (Sto) × va_W) => (u.1 = F_MH_turned_1 pf pt s ∧ frm (M_MH_turned_1 pt) s u.1 ∧ True) ∧ okn g T u.1 u.2) (po g.1 vcl A (fun (u : (Sto) × va_W) => [] ++ u.2)) A) args s0 0 0 A) (F0 m 2 ls []) := by
    intro n21
    induction n21 with
    | zero =>
      intro i21 s21 pl ls H locs hm21 hF hf21 hf22 hf23 hf24 hf25 hf26 hf27 hf28 hR hl hO hP hD hS
      refine lv_iload_n hx hb dMH_turned_2 rfl (lv_at hl 0 rfl) ?_
      refine lv_sipush (v := nI 256) hx hb dMH_turned_3 (by decide) ?_
      refine mi_ge (tgt := 22) hx hb dMH_turned_6 (by decide) (by omega) (by omega) (fun h21 => ?_) (fun h21 => absurd h21 (by omega))
      refine lv_iconst (v := nI 0) hx hb dMH_turned_22 (by decide) ?_
      refine lv_istore_n (lv' := [(3, .int (nI 0)), (0, .ref h0), (1, .ref f), (2, .ref to)]) hx hb dMH_turned_23 rfl hl (by decide) rfl (fun ls hl => ?_)
      have lp22 : ∀ (n22 : Nat) (i22 : Nat) (s22 : Sto) (pl : va_W) (ls : Array Slot) (H : Heap) (locs : List Loc), n22 + i22 = 256 → frm (M_MH_turned_1 pt) s s22 → s22.1 225 23 = nI 1 → s22.1 225 24 = nI 6 → s22.1 225 25 = nI 5 → s22.1 225 26 = nI 4 → s22.1 225 27 = nI 524288 → s22.1 225 28 = nI 261888 → s22.1 225 29 = nI 196 → s22.1 225 30 = nI 48 → F_MH_turned_1 pf pt s = F_MH_turned_1_L1 pf pt n22 i22 s22 → lv_has ls 8 [(3, .int (nI i22)), (0, .ref h0), (1, .ref f), (2, .ref to)] → okn g T s22 pl → va_P g.1 vcl ([] ++ pl) H → va_D A ([] ++ pl) → va_S A s0.heap H locs → W p l e ({ frames := 0, cells := 0, slots := 0, locals := 0 } : Room) s0 m args below meth c H locs 0 0 (MQ below (va_Qv (fun (u : (Sto) × va_W) => (u.1 = F_MH_turned_1 pf pt s ∧ frm (M_MH_turned_1 pt) s u.1 ∧ True) ∧ okn g T u.1 u.2) (po g.1 vcl A (fun (u : (Sto) × va_W) => [] ++ u.2)) A) args s0 0 0 A) (F0 m 24 ls []) := by
        intro n22
        induction n22 with
        | zero =>
          intro i22 s22 pl ls H locs hm22 hF hf29 hf30 hf31 hf32 hf33 hf34 hf35 hf36 hR hl hO hP hD hS
          refine lv_iload_n hx hb dMH_turned_24 rfl (lv_at hl 0 rfl) ?_
          refine lv_sipush (v := nI 256) hx hb dMH_turned_25 (by decide) ?_
          refine mi_ge (tgt := 126) hx hb dMH_turned_28 (by decide) (by omega) (by omega) (fun h22 => ?_) (fun h22 => absurd h22 (by omega))
          refine lv_iconst (v := nI 0) hx hb dMH_turned_126 (by decide) ?_
          refine lv_istore_n (lv' := [(3, .int (nI 0)), (0, .ref h0), (1, .ref f), (2, .ref to)]) hx hb dMH_turned_127 rfl hl (by decide) rfl (fun ls hl => ?_)
          have lp23 : ∀ (n23 : Nat) (i23 : Nat) (s23 : Sto) (pl : va_W) (ls : Array Slot) (H : Heap) (locs : List Loc), n23 + i23 = 256 → frm (M_MH_turned_1 pt) s s23 → s23.1 225 23 = nI 1 → s23.1 225 24 = nI 6 → s23.1 225 25 = nI 5 → s23.1 225 26 = nI 4 → s23.1 225 27 = nI 524288 → s23.1 225 28 = nI 261888 → s23.1 225 29 = nI 196 → s23.1 225 30 = nI 48 → F_MH_turned_1 pf pt s = F_MH_turned_1_L2 pt n23 i23 s23 → lv_has ls 8 [(3, .int (nI i23)), (0, .ref h0), (2, .ref to)] → okn g T s23 pl → va_P g.1 vcl ([] ++ pl) H → va_D A ([] ++ pl) → va_S A s0.heap H locs → W p l e ({ frames := 0, cells := 0, slots := 0, locals := 0 } : Room) s0 m args below meth c H locs 0 0 (MQ below (va_Qv (fun (u : (Sto) × va_W) => (u.1 = F_MH_turned_1 pf pt s ∧ frm (M_MH_turned_1 pt) s u.1 ∧ True) ∧ okn g T u.1 u.2) (po g.1 vcl A (fun (u : (Sto) × va_W) => [] ++ u.2)) A) args s0 0 0 A) (F0 m 128 ls []) := by
            intro n23
            induction n23 with
            | zero =>
              intro i23 s23 pl ls H locs hm23 hF hf37 hf38 hf39 hf40 hf41 hf42 hf43 hf44 hR hl hO hP hD hS
              refine lv_iload_n hx hb dMH_turned_128 rfl (lv_at hl 0 rfl) ?_
              refine lv_sipush (v := nI 256) hx hb dMH_turned_129 (by decide) ?_
              refine mi_ge (tgt := 175) hx hb dMH_turned_132 (by decide) (by omega) (by omega) (fun h23 => ?_) (fun h23 => absurd h23 (by omega))
              exact mp_vret hx hb hr hlk hP hD hS (s23, pl) ⟨⟨hR.symm, hF, trivial⟩, hO⟩ [] rfl rfl rfl (by omega) (by omega) dMH_turned_175
            | succ n23 ih23 =>
              intro i23 s23 pl ls H locs hm23 hF hf45 hf46 hf47 hf48 hf49 hf50 hf51 hf52 hR hl hO hP hD hS
              refine lv_iload_n hx hb dMH_turned_128 rfl (lv_at hl 0 rfl) ?_
              refine lv_sipush (v := nI 256) hx hb dMH_turned_129 (by decide) ?_
              refine mi_ge (tgt := 175) hx hb dMH_turned_132 (by decide) (by omega) (by omega) (fun h24 => absurd h24 (by omega)) (fun h24 => ?_)
              refine lv_aload_n hx hb dMH_turned_135 rfl (lv_at hl 1 rfl) ?_
              refine nw_get (C := "LatticeKeysModel$Hands") (TT := T_MH) (N := 31) hx hb hts (wg_ft i_MH) hown hK hO k_h0 (kn := 225) (ci := 12) (fl := [(3, 172), (3, 181), (3, 226), (3, 291), (3, 299), (3, 308), (3, 317), (3, 326), (3, 334), (3, 342), (3, 350), (3, 359), (3, 368), (3, 369), (3, 370), (3, 371), (3, 372), (3, 373), (3, 374), (3, 375), (3, 376), (3, 377), (3, 378), (0, 0), (0, 0), (0, 0), (0, 0), (0, 0), (0, 0), (0, 0), (0, 0)]) rfl hP rfl 15 (by decide) (hts _ (wg_t kw_1447)) (fun _ h9 => h9) (cd := (3, 371)) rfl dMH_turned_136 (fun v21 hv21 => ?_)
              obtain ⟨r21, rfl, kr21⟩ := (show ∃ r : Nat, v21 = .ref r ∧ T r = some 371 from hv21)
              refine lv_iload_n hx hb dMH_turned_139 rfl (lv_at hl 0 rfl) ?_
              refine nw_lald hx hb hK hO kr21 (k := 371) rfl hP (by omega) (by omega) dMH_turned_140 ?_
              refine lv_ldc2 (v := (8380417)) hx hb hown (hts _ (wg_t kw_1738)) dMH_turned_141 ?_
              refine lv_lrem hx hb dMH_turned_144 (by decide) ?_
              refine ml_eqv (fun y21 ez21 => ?_)
              replace hR := bnd_step hR ez21
              refine lv_lstore (lv' := [(4, .long y21), (3, .int (nI i23)), (0, .ref h0), (2, .ref to)]) hx hb dMH_turned_145 hl (by decide) rfl (fun ls hl => ?_)
              refine lv_aload_n hx hb dMH_turned_147 rfl (lv_at hl 3 rfl) ?_
              refine lv_iload_n hx hb dMH_turned_148 rfl (lv_at hl 1 rfl) ?_
              refine lv_lload hx hb dMH_turned_149 (lv_at hl 0 rfl) ?_
              refine lv_lconst (v := 0) hx hb dMH_turned_151 (by decide) ?_
              refine W.lcmp hx hb dMH_turned_152 ?_
              refine lv_if_ge (tgt := 165) hx hb dMH_turned_153 (by decide) (fun h25 => ?_) (fun h25 => ?_)
              · replace hR := hR.trans (if_pos h25)
                refine lv_lload hx hb dMH_turned_165 (lv_at hl 0 rfl) ?_
                refine lv_l2i hx hb dMH_turned_167 rfl ?_
                refine nw_iast hx hb hK hO hU k_to (k := pt) n_to hP hD hS (by omega) (by omega) dMH_turned_168 (fun s24 pl H locs es21 hO hP hD hS => ?_)
                replace hR := bnd_step hR es21
                have hF := frm_sI hF es21 (by unfold M_MH_turned_1; omega)
                have hf53 : s24.1 225 23 = nI 1 := fc_ne hf45 es21 (by omega)
                have hf54 : s24.1 225 24 = nI 6 := fc_ne hf46 es21 (by omega)
                have hf55 : s24.1 225 25 = nI 5 := fc_ne hf47 es21 (by omega)
                have hf56 : s24.1 225 26 = nI 4 := fc_ne hf48 es21 (by omega)
                have hf57 : s24.1 225 27 = nI 524288 := fc_ne hf49 es21 (by omega)
                have hf58 : s24.1 225 28 = nI 261888 := fc_ne hf50 es21 (by omega)
                have hf59 : s24.1 225 29 = nI 196 := fc_ne hf51 es21 (by omega)
                have hf60 : s24.1 225 30 = nI 48 := fc_ne hf52 es21 (by omega)
                refine mi_iinc (k := 1) (x := i23) (d := 1) (y := i23 + 1) (lv' := [(3, .int (nI (i23 + 1))), (4, .long y21), (0, .ref h0), (2, .ref to)]) hx hb dMH_turned_169 hl rfl (by decide) rfl (by decide) rfl (fun ls hl => ?_)
                refine lv_goto (tgt := 128) hx hb dMH_turned_172 (by decide) ?_
                exact ih23 (i23 + 1) s24 pl ls H locs (by omega) hF hf53 hf54 hf55 hf56 hf57 hf58 hf59 hf60 hR (lv_sub hl [0, 2, 3] rfl) hO hP hD hS
              · replace hR := hR.trans (if_neg h25)
                refine lv_lload hx hb dMH_turned_156 (lv_at hl 0 rfl) ?_
                refine lv_ldc2 (v := (8380417)) hx hb hown (hts _ (wg_t kw_1738)) dMH_turned_158 ?_
                refine lv_ladd hx hb dMH_turned_161 ?_
                refine lv_goto (tgt := 167) hx hb dMH_turned_162 (by decide) ?_
                refine lv_l2i hx hb dMH_turned_167 rfl ?_
                refine nw_iast hx hb hK hO hU k_to (k := pt) n_to hP hD hS (by omega) (by omega) dMH_turned_168 (fun s25 pl H locs es22 hO hP hD hS => ?_)
                replace hR := bnd_step hR es22
                have hF := frm_sI hF es22 (by unfold M_MH_turned_1; omega)
                have hf61 : s25.1 225 23 = nI 1 := fc_ne hf45 es22 (by omega)
                have hf62 : s25.1 225 24 = nI 6 := fc_ne hf46 es22 (by omega)
                have hf63 : s25.1 225 25 = nI 5 := fc_ne hf47 es22 (by omega)
                have hf64 : s25.1 225 26 = nI 4 := fc_ne hf48 es22 (by omega)
                have hf65 : s25.1 225 27 = nI 524288 := fc_ne hf49 es22 (by omega)
                have hf66 : s25.1 225 28 = nI 261888 := fc_ne hf50 es22 (by omega)
                have hf67 : s25.1 225 29 = nI 196 := fc_ne hf51 es22 (by omega)
                have hf68 : s25.1 225 30 = nI 48 := fc_ne hf52 es22 (by omega)
                refine mi_iinc (k := 1) (x := i23) (d := 1) (y := i23 + 1) (lv' := [(3, .int (nI (i23 + 1))), (4, .long y21), (0, .ref h0), (2, .ref to)]) hx hb dMH_turned_169 hl rfl (by decide) rfl (by decide) rfl (fun ls hl => ?_)
                refine lv_goto (tgt := 128) hx hb dMH_turned_172 (by decide) ?_
                exact ih23 (i23 + 1) s25 pl ls H locs (by omega) hF hf61 hf62 hf63 hf64 hf65 hf66 hf67 hf68 hR (lv_sub hl [0, 2, 3] rfl) hO hP hD hS
          exact lp23 256 0 s22 pl ls _ _ (by omega) hF hf29 hf30 hf31 hf32 hf33 hf34 hf35 hf36 hR (lv_sub hl [0, 1, 3] rfl) hO hP hD hS
        | succ n22 ih22 =>
          intro i22 s22 pl ls H locs hm22 hF hf69 hf70 hf71 hf72 hf73 hf74 hf75 hf76 hR hl hO hP hD hS
          refine lv_iload_n hx hb dMH_turned_24 rfl (lv_at hl 0 rfl) ?_
          refine lv_sipush (v := nI 256) hx hb dMH_turned_25 (by decide) ?_
          refine mi_ge (tgt := 126) hx hb dMH_turned_28 (by decide) (by omega) (by omega) (fun h26 => absurd h26 (by omega)) (fun h26 => ?_)
          refine lv_aload_n hx hb dMH_turned_31 rfl (lv_at hl 1 rfl) ?_
          refine nw_get (C := "LatticeKeysModel$Hands") (TT := T_MH) (N := 31) hx hb hts (wg_ft i_MH) hown hK hO k_h0 (kn := 225) (ci := 12) (fl := [(3, 172), (3, 181), (3, 226), (3, 291), (3, 299), (3, 308), (3, 317), (3, 326), (3, 334), (3, 342), (3, 350), (3, 359), (3, 368), (3, 369), (3, 370), (3, 371), (3, 372), (3, 373), (3, 374), (3, 375), (3, 376), (3, 377), (3, 378), (0, 0), (0, 0), (0, 0), (0, 0), (0, 0), (0, 0), (0, 0), (0, 0)]) rfl hP rfl 12 (by decide) (hts _ (wg_t kw_1444)) (fun _ h9 => h9) (cd := (3, 368)) rfl dMH_turned_32 (fun v22 hv22 => ?_)
          obtain ⟨r22, rfl, kr22⟩ := (show ∃ r : Nat, v22 = .ref r ∧ T r = some 368 from hv22)
          refine lv_iload_n hx hb dMH_turned_35 rfl (lv_at hl 0 rfl) ?_
          refine nw_iald hx hb hK hO kr22 (k := 368) rfl hP (by omega) (by omega) dMH_turned_36 ?_
          refine lv_if_ne (tgt := 43) hx hb dMH_turned_37 (by decide) (fun h27 => ?_) (fun h27 => ?_)
          · replace hR := hR.trans (if_neg h27)
            refine lv_iconst (v := nI 0) hx hb dMH_turned_43 (by decide) ?_
            refine lv_istore (lv' := [(4, .int (nI 0)), (3, .int (nI i22)), (0, .ref h0), (1, .ref f), (2, .ref to)]) hx hb dMH_turned_44 hl (by decide) rfl (fun ls hl => ?_)
            have lp24 : ∀ (n24 : Nat) (i24 : Nat) (s26 : Sto) (pl : va_W) (ls : Array Slot) (H : Heap) (locs : List Loc), n24 + i24 = 256 → frm (M_MH_turned_1 pt) s s26 → s26.1 225 23 = nI 1 → s26.1 225 24 = nI 6 → s26.1 225 25 = nI 5 → s26.1 225 26 = nI 4 → s26.1 225 27 = nI 524288 → s26.1 225 28 = nI 261888 → s26.1 225 29 = nI 196 → s26.1 225 30 = nI 48 → F_MH_turned_1 pf pt s = F_MH_turned_1_L3 pf i22 (F_MH_turned_1_L1 pf pt n22) n24 i24 s26 → lv_has ls 8 [(4, .int (nI i24)), (3, .int (nI i22)), (0, .ref h0), (1, .ref f), (2, .ref to)] → okn g T s26 pl → va_P g.1 vcl ([] ++ pl) H → va_D A ([] ++ pl) → va_S A s0.heap H locs → W p l e ({ frames := 0, cells := 0, slots := 0, locals := 0 } : Room) s0 m args below meth c H locs 0 0 (MQ below (va_Qv (fun (u : (Sto) × va_W) => (u.1 = F_MH_turned_1 pf pt s ∧ frm (M_MH_turned_1 pt) s u.1 ∧ True) ∧ okn g T u.1 u.2) (po g.1 vcl A (fun (u : (Sto) × va_W) => [] ++ u.2)) A) args s0 0 0 A) (F0 m 46 ls []) := by
              intro n24
              induction n24 with
              | zero =>
                intro i24 s26 pl ls H locs hm24 hF hf77 hf78 hf79 hf80 hf81 hf82 hf83 hf84 hR hl hO hP hD hS
                refine lv_iload hx hb dMH_turned_46 (lv_at hl 0 rfl) ?_
                refine lv_sipush (v := nI 256) hx hb dMH_turned_48 (by decide) ?_
                refine mi_ge (tgt := 120) hx hb dMH_turned_51 (by decide) (by omega) (by omega) (fun h28 => ?_) (fun h28 => absurd h28 (by omega))
                refine mi_iinc (k := 1) (x := i22) (d := 1) (y := i22 + 1) (lv' := [(3, .int (nI (i22 + 1))), (4, .int (nI i24)), (0, .ref h0), (1, .ref f), (2, .ref to)]) hx hb dMH_turned_120 hl rfl (by decide) rfl (by decide) rfl (fun ls hl => ?_)
                refine lv_goto (tgt := 24) hx hb dMH_turned_123 (by decide) ?_
                exact ih22 (i22 + 1) s26 pl ls H locs (by omega) hF hf77 hf78 hf79 hf80 hf81 hf82 hf83 hf84 hR (lv_sub hl [0, 2, 3, 4] rfl) hO hP hD hS
              | succ n24 ih24 =>
                intro i24 s26 pl ls H locs hm24 hF hf85 hf86 hf87 hf88 hf89 hf90 hf91 hf92 hR hl hO hP hD hS
                refine lv_iload hx hb dMH_turned_46 (lv_at hl 0 rfl) ?_
                refine lv_sipush (v := nI 256) hx hb dMH_turned_48 (by decide) ?_
                refine mi_ge (tgt := 120) hx hb dMH_turned_51 (by decide) (by omega) (by omega) (fun h29 => absurd h29 (by omega)) (fun h29 => ?_)
                refine lv_iload_n hx hb dMH_turned_54 rfl (lv_at hl 1 rfl) ?_
                refine lv_iload hx hb dMH_turned_55 (lv_at hl 0 rfl) ?_
                refine mi_iadd hx hb dMH_turned_57 ?_
                refine lv_istore (lv' := [(5, .int (nI (i22 + i24))), (4, .int (nI i24)), (3, .int (nI i22)), (0, .ref h0), (1, .ref f), (2, .ref to)]) hx hb dMH_turned_58 hl (by decide) rfl (fun ls hl => ?_)
                refine lv_aload_n hx hb dMH_turned_60 rfl (lv_at hl 3 rfl) ?_
                refine nw_get (C := "LatticeKeysModel$Hands") (TT := T_MH) (N := 31) hx hb hts (wg_ft i_MH) hown hK hO k_h0 (kn := 225) (ci := 12) (fl := [(3, 172), (3, 181), (3, 226), (3, 291), (3, 299), (3, 308), (3, 317), (3, 326), (3, 334), (3, 342), (3, 350), (3, 359), (3, 368), (3, 369), (3, 370), (3, 371), (3, 372), (3, 373), (3, 374), (3, 375), (3, 376), (3, 377), (3, 378), (0, 0), (0, 0), (0, 0), (0, 0), (0, 0), (0, 0), (0, 0), (0, 0)]) rfl hP rfl 12 (by decide) (hts _ (wg_t kw_1444)) (fun _ h9 => h9) (cd := (3, 368)) rfl dMH_turned_61 (fun v23 hv23 => ?_)
                obtain ⟨r23, rfl, kr23⟩ := (show ∃ r : Nat, v23 = .ref r ∧ T r = some 368 from hv23)
                refine lv_iload_n hx hb dMH_turned_64 rfl (lv_at hl 2 rfl) ?_
                refine nw_iald hx hb hK hO kr23 (k := 368) rfl hP (by omega) (by omega) dMH_turned_65 ?_
                refine lv_i2l hx hb dMH_turned_66 rfl ?_
                refine lv_aload_n hx hb dMH_turned_67 rfl (lv_at hl 4 rfl) ?_
                refine lv_iload hx hb dMH_turned_68 (lv_at hl 1 rfl) ?_
                refine nw_iald hx hb hK hO k_f (k := pf) n_f hP (by omega) (by omega) dMH_turned_70 ?_
                refine lv_i2l hx hb dMH_turned_71 rfl ?_
                refine lv_lmul hx hb dMH_turned_72 ?_
                refine ml_eqv (fun y22 ez22 => ?_)
                replace hR := bnd_step hR ez22
                refine lv_lstore (lv' := [(6, .long y22), (5, .int (nI (i22 + i24))), (4, .int (nI i24)), (3, .int (nI i22)), (0, .ref h0), (1, .ref f), (2, .ref to)]) hx hb dMH_turned_73 hl (by decide) rfl (fun ls hl => ?_)
                refine lv_iload hx hb dMH_turned_75 (lv_at hl 1 rfl) ?_
                refine lv_sipush (v := nI 256) hx hb dMH_turned_77 (by decide) ?_
                refine mi_ge (tgt := 98) hx hb dMH_turned_80 (by decide) (by omega) (by omega) (fun h30 => ?_) (fun h30 => ?_)
                · replace hR := hR.trans (if_pos h30)
                  refine lv_aload_n hx hb dMH_turned_98 rfl (lv_at hl 4 rfl) ?_
                  refine nw_get (C := "LatticeKeysModel$Hands") (TT := T_MH) (N := 31) hx hb hts (wg_ft i_MH) hown hK hO k_h0 (kn := 225) (ci := 12) (fl := [(3, 172), (3, 181), (3, 226), (3, 291), (3, 299), (3, 308), (3, 317), (3, 326), (3, 334), (3, 342), (3, 350), (3, 359), (3, 368), (3, 369), (3, 370), (3, 371), (3, 372), (3, 373), (3, 374), (3, 375), (3, 376), (3, 377), (3, 378), (0, 0), (0, 0), (0, 0), (0, 0), (0, 0), (0, 0), (0, 0), (0, 0)]) rfl hP rfl 15 (by decide) (hts _ (wg_t kw_1447)) (fun _ h9 => h9) (cd := (3, 371)) rfl dMH_turned_99 (fun v24 hv24 => ?_)
                  obtain ⟨r24, rfl, kr24⟩ := (show ∃ r : Nat, v24 = .ref r ∧ T r = some 371 from hv24)
                  refine lv_iload hx hb dMH_turned_102 (lv_at hl 1 rfl) ?_
                  refine lv_sipush (v := nI 256) hx hb dMH_turned_104 (by decide) ?_
                  refine mi_isub hx hb dMH_turned_107 (by omega) ?_
                  refine lv_dup2_11 hx hb dMH_turned_108 rfl rfl ?_
                  refine nw_lald hx hb hK hO kr24 (k := 371) rfl hP (by omega) (by omega) dMH_turned_109 ?_
                  refine lv_lload hx hb dMH_turned_110 (lv_at hl 0 rfl) ?_
                  refine lv_lsub hx hb dMH_turned_112 ?_
                  refine nw_last hx hb hK hO hU kr24 (k := 371) rfl hP hD hS (by omega) (by omega) dMH_turned_113 (fun s27 pl H locs es23 hO hP hD hS => ?_)
                  replace hR := bnd_step hR es23
                  have hF := frm_sL hF es23
                  have hf93 : s27.1 225 23 = nI 1 := fc_L hf85 es23
                  have hf94 : s27.1 225 24 = nI 6 := fc_L hf86 es23
                  have hf95 : s27.1 225 25 = nI 5 := fc_L hf87 es23
                  have hf96 : s27.1 225 26 = nI 4 := fc_L hf88 es23
                  have hf97 : s27.1 225 27 = nI 524288 := fc_L hf89 es23
                  have hf98 : s27.1 225 28 = nI 261888 := fc_L hf90 es23
                  have hf99 : s27.1 225 29 = nI 196 := fc_L hf91 es23
                  have hf100 : s27.1 225 30 = nI 48 := fc_L hf92 es23
                  refine mi_iinc (k := 2) (x := i24) (d := 1) (y := i24 + 1) (lv' := [(4, .int (nI (i24 + 1))), (6, .long y22), (5, .int (nI (i22 + i24))), (3, .int (nI i22)), (0, .ref h0), (1, .ref f), (2, .ref to)]) hx hb dMH_turned_114 hl rfl (by decide) rfl (by decide) rfl (fun ls hl => ?_)
                  refine lv_goto (tgt := 46) hx hb dMH_turned_117 (by decide) ?_
                  exact ih24 (i24 + 1) s27 pl ls H locs (by omega) hF hf93 hf94 hf95 hf96 hf97 hf98 hf99 hf100 hR (lv_sub hl [0, 3, 4, 5, 6] rfl) hO hP hD hS
                · replace hR := hR.trans (if_neg (Nat.not_le.mpr h30))
                  refine lv_aload_n hx hb dMH_turned_83 rfl (lv_at hl 4 rfl) ?_
                  refine nw_get (C := "LatticeKeysModel$Hands") (TT := T_MH) (N := 31) hx hb hts (wg_ft i_MH) hown hK hO k_h0 (kn := 225) (ci := 12) (fl := [(3, 172), (3, 181), (3, 226), (3, 291), (3, 299), (3, 308), (3, 317), (3, 326), (3, 334), (3, 342), (3, 350), (3, 359), (3, 368), (3, 369), (3, 370), (3, 371), (3, 372), (3, 373), (3, 374), (3, 375), (3, 376), (3, 377), (3, 378), (0, 0), (0, 0), (0, 0), (0, 0), (0, 0), (0, 0), (0, 0), (0, 0)]) rfl hP rfl 15 (by decide) (hts _ (wg_t kw_1447)) (fun _ h9 => h9) (cd := (3, 371)) rfl dMH_turned_84 (fun v25 hv25 => ?_)
                  obtain ⟨r25, rfl, kr25⟩ := (show ∃ r : Nat, v25 = .ref r ∧ T r = some 371 from hv25)
                  refine lv_iload hx hb dMH_turned_87 (lv_at hl 1 rfl) ?_
                  refine lv_dup2_11 hx hb dMH_turned_89 rfl rfl ?_
                  refine nw_lald hx hb hK hO kr25 (k := 371) rfl hP (by omega) (by omega) dMH_turned_90 ?_
                  refine lv_lload hx hb dMH_turned_91 (lv_at hl 0 rfl) ?_
                  refine lv_ladd hx hb dMH_turned_93 ?_
                  refine nw_last hx hb hK hO hU kr25 (k := 371) rfl hP hD hS (by omega) (by omega) dMH_turned_94 (fun s28 pl H locs es24 hO hP hD hS => ?_)
                  replace hR := bnd_step hR es24
                  have hF := frm_sL hF es24
                  have hf101 : s28.1 225 23 = nI 1 := fc_L hf85 es24
                  have hf102 : s28.1 225 24 = nI 6 := fc_L hf86 es24
                  have hf103 : s28.1 225 25 = nI 5 := fc_L hf87 es24
                  have hf104 : s28.1 225 26 = nI 4 := fc_L hf88 es24
                  have hf105 : s28.1 225 27 = nI 524288 := fc_L hf89 es24
                  have hf106 : s28.1 225 28 = nI 261888 := fc_L hf90 es24
                  have hf107 : s28.1 225 29 = nI 196 := fc_L hf91 es24
                  have hf108 : s28.1 225 30 = nI 48 := fc_L hf92 es24
                  refine lv_goto (tgt := 114) hx hb dMH_turned_95 (by decide) ?_
                  refine mi_iinc (k := 2) (x := i24) (d := 1) (y := i24 + 1) (lv' := [(4, .int (nI (i24 + 1))), (6, .long y22), (5, .int (nI (i22 + i24))), (3, .int (nI i22)), (0, .ref h0), (1, .ref f), (2, .ref to)]) hx hb dMH_turned_114 hl rfl (by decide) rfl (by decide) rfl (fun ls hl => ?_)
                  refine lv_goto (tgt := 46) hx hb dMH_turned_117 (by decide) ?_
                  exact ih24 (i24 + 1) s28 pl ls H locs (by omega) hF hf101 hf102 hf103 hf104 hf105 hf106 hf107 hf108 hR (lv_sub hl [0, 3, 4, 5, 6] rfl) hO hP hD hS
            exact lp24 256 0 s22 pl ls _ _ (by omega) hF hf69 hf70 hf71 hf72 hf73 hf74 hf75 hf76 hR (lv_sub hl [0, 1, 2, 3, 4] rfl) hO hP hD hS
          · replace hR := hR.trans (if_pos h27)
            refine lv_goto (tgt := 120) hx hb dMH_turned_40 (by decide) ?_
            refine mi_iinc (k := 0) (x := i22) (d := 1) (y := i22 + 1) (lv' := [(3, .int (nI (i22 + 1))), (0, .ref h0), (1, .ref f), (2, .ref to)]) hx hb dMH_turned_120 hl rfl (by decide) rfl (by decide) rfl (fun ls hl => ?_)
            refine lv_goto (tgt := 24) hx hb dMH_turned_123 (by decide) ?_
            exact ih22 (i22 + 1) s22 pl ls H locs (by omega) hF hf69 hf70 hf71 hf72 hf73 hf74 hf75 hf76 hR (lv_sub hl [0, 1, 2, 3] rfl) hO hP hD hS
      exact lp22 256 0 s21 pl ls _ _ (by omega) hF hf21 hf22 hf23 hf24 hf25 hf26 hf27 hf28 hR (lv_sub hl [0, 1, 2, 3] rfl) hO hP hD hS
    | succ n21 ih21 =>
      intro i21 s21 pl ls H locs hm21 hF hf109 hf110 hf111 hf112 hf113 hf114 hf115 hf116 hR hl hO hP hD hS
      refine lv_iload_n hx hb dMH_turned_2 rfl (lv_at hl 0 rfl) ?_
      refine lv_sipush (v := nI 256) hx hb dMH_turned_3 (by decide) ?_
      refine mi_ge (tgt := 22) hx hb dMH_turned_6 (by decide) (by omega) (by omega) (fun h31 => absurd h31 (by omega)) (fun h31 => ?_)
      refine lv_aload_n hx hb dMH_turned_9 rfl (lv_at hl 1 rfl) ?_
      refine nw_get (C := "LatticeKeysModel$Hands") (TT := T_MH) (N := 31) hx hb hts (wg_ft i_MH) hown hK hO k_h0 (kn := 225) (ci := 12) (fl := [(3, 172), (3, 181), (3, 226), (3, 291), (3, 299), (3, 308), (3, 317), (3, 326), (3, 334), (3, 342), (3, 350), (3, 359), (3, 368), (3, 369), (3, 370), (3, 371), (3, 372), (3, 373), (3, 374), (3, 375), (3, 376), (3, 377), (3, 378), (0, 0), (0, 0), (0, 0), (0, 0), (0, 0), (0, 0), (0, 0), (0, 0)]) rfl hP rfl 15 (by decide) (hts _ (wg_t kw_1447)) (fun _ h9 => h9) (cd := (3, 371)) rfl dMH_turned_10 (fun v26 hv26 => ?_)
      obtain ⟨r26, rfl, kr26⟩ := (show ∃ r : Nat, v26 = .ref r ∧ T r = some 371 from hv26)
      refine lv_iload_n hx hb dMH_turned_13 rfl (lv_at hl 0 rfl) ?_
      refine lv_lconst (v := 0) hx hb dMH_turned_14 (by decide) ?_
      refine nw_last hx hb hK hO hU kr26 (k := 371) rfl hP hD hS (by omega) (by omega) dMH_turned_15 (fun s29 pl H locs es25 hO hP hD hS => ?_)
      replace hR := bnd_step hR es25
      have hF := frm_sL hF es25
      have hf117 : s29.1 225 23 = nI 1 := fc_L hf109 es25
      have hf118 : s29.1 225 24 = nI 6 := fc_L hf110 es25
      have hf119 : s29.1 225 25 = nI 5 := fc_L hf111 es25
      have hf120 : s29.1 225 26 = nI 4 := fc_L hf112 es25
      have hf121 : s29.1 225 27 = nI 524288 := fc_L hf113 es25
      have hf122 : s29.1 225 28 = nI 261888 := fc_L hf114 es25
      have hf123 : s29.1 225 29 = nI 196 := fc_L hf115 es25
      have hf124 : s29.1 225 30 = nI 48 := fc_L hf116 es25
      refine mi_iinc (k := 0) (x := i21) (d := 1) (y := i21 + 1) (lv' := [(3, .int (nI (i21 + 1))), (0, .ref h0), (1, .ref f), (2, .ref to)]) hx hb dMH_turned_16 hl rfl (by decide) rfl (by decide) rfl (fun ls hl => ?_)
      refine lv_goto (tgt := 2) hx hb dMH_turned_19 (by decide) ?_
      exact ih21 (i21 + 1) s29 pl ls H locs (by omega) hF hf117 hf118 hf119 hf120 hf121 hf122 hf123 hf124 hR (lv_sub hl [0, 1, 2, 3] rfl) hO hP hD hS
  exact lp21 256 0 s pl ls _ _ (by omega) hF e_c0 e_c1 e_c2 e_c3 e_c4 e_c5 e_c6 e_c7 hR (lv_sub hl [0, 1, 2, 3] rfl) hO hP hD hS
def M_MH_turned_2 (pt : Nat) (k : Nat) : Prop := k = pt ∨ (0 : Nat) = 1
noncomputable def F_MH_turned_2_L3 (pf : Nat) (i22 : Nat) (kk : Nat → Sto → Sto) : Nat → Nat → Sto → Sto
  | 0, i24, s26 => kk (i22 + 1) s26
  | n24 + 1, i24, s26 => bnd ((((s26.1 368 i22).toInt64) * ((s26.1 pf i24).toInt64))) fun y22 => if 256 ≤ i22 + i24 then bnd (sL s26 371 ((i22 + i24) - 256) ((s26.2 371 ((i22 + i24) - 256)) - y22)) fun s27 => F_MH_turned_2_L3 pf i22 kk n24 (i24 + 1) s27 else bnd (sL s26 371 (i22 + i24) ((s26.2 371 (i22 + i24)) + y22)) fun s28 => F_MH_turned_2_L3 pf i22 kk n24 (i24 + 1) s28
noncomputable def F_MH_turned_2_L2 (pt : Nat) : Nat → Nat → Sto → Sto
  | 0, i23, s23 => s23
  | n23 + 1, i23, s23 => bnd (((s23.2 371 i23) - (s23.2 371 i23) / (8380417) * (8380417))) fun y21 => if 0 ≤ (lg_cmp y21 0) then bnd (sI s23 pt i23 (y21.toInt32)) fun s24 => F_MH_turned_2_L2 pt n23 (i23 + 1) s24 else bnd (sI s23 pt i23 ((y21 + (8380417)).toInt32)) fun s25 => F_MH_turned_2_L2 pt n23 (i23 + 1) s25
noncomputable def F_MH_turned_2_L1 (pf : Nat) (pt : Nat) : Nat → Nat → Sto → Sto
  | 0, i22, s22 => F_MH_turned_2_L2 pt 256 0 s22
  | n22 + 1, i22, s22 => if (s22.1 368 i22) = 0 then F_MH_turned_2_L1 pf pt n22 (i22 + 1) s22 else F_MH_turned_2_L3 pf i22 (F_MH_turned_2_L1 pf pt n22) 256 0 s22
noncomputable def F_MH_turned_2_L0 (pf : Nat) (pt : Nat) : Nat → Nat → Sto → Sto
  | 0, i21, s21 => F_MH_turned_2_L1 pf pt 256 0 s21
  | n21 + 1, i21, s21 => bnd (sL s21 371 i21 0) fun s29 => F_MH_turned_2_L0 pf pt n21 (i21 + 1) s29
noncomputable def F_MH_turned_2 (pf : Nat) (pt : Nat) (s : Sto) : Sto := F_MH_turned_2_L0 pf pt 256 0 s
set_option maxHeartbeats 8000000 in
set_option maxRecDepth 100000 in
theorem N_MH_turned_2 (l : Launch) (g : Gd) (sz : Nat) (T : TyN) (s : Sto) (pl : va_W) (hO : okn g T s pl) (hU : inj T) (h0 f to : Nat) (pf : Nat) (pt : Nat) (k_h0 : T h0 = some 225) (k_f : T f = some pf) (n_f : nsp pf = (0, 256, [])) (k_to : T to = some pt) (n_to : nsp pt = (0, 256, [])) (e_c0 : s.1 225 23 = nI 2) (e_c1 : s.1 225 24 = nI 8) (e_c2 : s.1 225 25 = nI 7) (e_c3 : s.1 225 26 = nI 2) (e_c4 : s.1 225 27 = nI 524288) (e_c5 : s.1 225 28 = nI 261888) (e_c6 : s.1 225 29 = nI 120) (e_c7 : s.1 225 30 = nI 64)  : Met l y_MH_turned w_MH_turned ({ frames := 0, cells := 0, slots := 0, locals := 0 } : Room) (va_Pc [.ref h0, .ref f, .ref to] (pr (en g) g.1 vcl sz ([] ++ pl))) (va_Qv (fun (u : (Sto) × va_W) => (u.1 = F_MH_turned_2 pf pt s ∧ frm (M_MH_turned_2 pt) s u.1 ∧ True) ∧ okn g T u.1 u.2) (po g.1 vcl (va_A ([] ++ pl) sz) (fun (u : (Sto) × va_W) => [] ++ u.2)) (va_A ([] ++ pl) sz)) 0 0 (va_A ([] ++ pl) sz) := by
  refine mc_entry (cc := c_MH_turned) (maxL := 8) (ret := none) (by decide) rfl (Nat.le_of_ble_eq_true rfl) ?_
  intro p e s0 m args below meth c ls F hr hlk hnm hsz hP hD hE hA hl
  obtain ⟨hx, hb, hml, hown, hts⟩ := id F
  have hK := hE.1
  generalize va_A ([] ++ pl) sz = A at hD hE hA ⊢
  have hS : va_S A s0.heap s0.heap [] := va_S.rf
  have hl : lv_has ls 8 [(0, .ref h0), (1, .ref f), (2, .ref to)] := hl
  have hR : F_MH_turned_2 pf pt s = F_MH_turned_2 pf pt s := rfl
  have hF : frm (M_MH_turned_2 pt) s s := frm_rf
  have ne_172_pf : 172 ≠ pf := nsp_ne (p := 172) rfl n_f (show (5 : Nat) ≠ 0 by decide)
  have ne_172_pt : 172 ≠ pt := nsp_ne (p := 172) rfl n_to (show (5 : Nat) ≠ 0 by decide)
  have ne_225_pf : 225 ≠ pf := nsp_ne (p := 225) rfl n_f (show (5 : Nat) ≠ 0 by decide)
  have ne_225_pt : 225 ≠ pt := nsp_ne (p := 225) rfl n_to (show (5 : Nat) ≠ 0 by decide)
  refine lv_iconst (v := nI 0) hx hb dMH_turned_0 (by decide) ?_
  refine lv_istore_n (lv' := [(3, .int (nI 0)), (0, .ref h0), (1, .ref f), (2, .ref to)]) hx hb dMH_turned_1 rfl hl (by decide) rfl (fun ls hl => ?_)
  have lp21 : ∀ (n21 : Nat) (i21 : Nat) (s21 : Sto) (pl : va_W) (ls : Array Slot) (H : Heap) (locs : List Loc), n21 + i21 = 256 → frm (M_MH_turned_2 pt) s s21 → s21.1 225 23 = nI 2 → s21.1 225 24 = nI 8 → s21.1 225 25 = nI 7 → s21.1 225 26 = nI 2 → s21.1 225 27 = nI 524288 → s21.1 225 28 = nI 261888 → s21.1 225 29 = nI 120 → s21.1 225 30 = nI 64 → F_MH_turned_2 pf pt s = F_MH_turned_2_L0 pf pt n21 i21 s21 → lv_has ls 8 [(3, .int (nI i21)), (0, .ref h0), (1, .ref f), (2, .ref to)] → okn g T s21 pl → va_P g.1 vcl ([] ++ pl) H → va_D A ([] ++ pl) → va_S A s0.heap H locs → W p l e ({ frames := 0, cells := 0, slots := 0, locals := 0 } : Room) s0 m args below meth c H locs 0 0 (MQ below (va_Qv (fun (u : (Sto) × va_W) => (u.1 = F_MH_turned_2 pf pt s ∧ frm (M_MH_turned_2 pt) s u.1 ∧ True) ∧ okn g T u.1 u.2) (po g.1 vcl A (fun (u : (Sto) × va_W) => [] ++ u.2)) A) args s0 0 0 A) (F0 m 2 ls []) := by
    intro n21
    induction n21 with
    | zero =>
      intro i21 s21 pl ls H locs hm21 hF hf21 hf22 hf23 hf24 hf25 hf26 hf27 hf28 hR hl hO hP hD hS
      refine lv_iload_n hx hb dMH_turned_2 rfl (lv_at hl 0 rfl) ?_
      refine lv_sipush (v := nI 256) hx hb dMH_turned_3 (by decide) ?_
      refine mi_ge (tgt := 22) hx hb dMH_turned_6 (by decide) (by omega) (by omega) (fun h21 => ?_) (fun h21 => absurd h21 (by omega))
      refine lv_iconst (v := nI 0) hx hb dMH_turned_22 (by decide) ?_
      refine lv_istore_n (lv' := [(3, .int (nI 0)), (0, .ref h0), (1, .ref f), (2, .ref to)]) hx hb dMH_turned_23 rfl hl (by decide) rfl (fun ls hl => ?_)
      have lp22 : ∀ (n22 : Nat) (i22 : Nat) (s22 : Sto) (pl : va_W) (ls : Array Slot) (H : Heap) (locs : List Loc), n22 + i22 = 256 → frm (M_MH_turned_2 pt) s s22 → s22.1 225 23 = nI 2 → s22.1 225 24 = nI 8 → s22.1 225 25 = nI 7 → s22.1 225 26 = nI 2 → s22.1 225 27 = nI 524288 → s22.1 225 28 = nI 261888 → s22.1 225 29 = nI 120 → s22.1 225 30 = nI 64 → F_MH_turned_2 pf pt s = F_MH_turned_2_L1 pf pt n22 i22 s22 → lv_has ls 8 [(3, .int (nI i22)), (0, .ref h0), (1, .ref f), (2, .ref to)] → okn g T s22 pl → va_P g.1 vcl ([] ++ pl) H → va_D A ([] ++ pl) → va_S A s0.heap H locs → W p l e ({ frames := 0, cells := 0, slots := 0, locals := 0 } : Room) s0 m args below meth c H locs 0 0 (MQ below (va_Qv (fun (u : (Sto) × va_W) => (u.1 = F_MH_turned_2 pf pt s ∧ frm (M_MH_turned_2 pt) s u.1 ∧ True) ∧ okn g T u.1 u.2) (po g.1 vcl A (fun (u : (Sto) × va_W) => [] ++ u.2)) A) args s0 0 0 A) (F0 m 24 ls []) := by
        intro n22
        induction n22 with
        | zero =>
          intro i22 s22 pl ls H locs hm22 hF hf29 hf30 hf31 hf32 hf33 hf34 hf35 hf36 hR hl hO hP hD hS
          refine lv_iload_n hx hb dMH_turned_24 rfl (lv_at hl 0 rfl) ?_
          refine lv_sipush (v := nI 256) hx hb dMH_turned_25 (by decide) ?_
          refine mi_ge (tgt := 126) hx hb dMH_turned_28 (by decide) (by omega) (by omega) (fun h22 => ?_) (fun h22 => absurd h22 (by omega))
          refine lv_iconst (v := nI 0) hx hb dMH_turned_126 (by decide) ?_
          refine lv_istore_n (lv' := [(3, .int (nI 0)), (0, .ref h0), (1, .ref f), (2, .ref to)]) hx hb dMH_turned_127 rfl hl (by decide) rfl (fun ls hl => ?_)
          have lp23 : ∀ (n23 : Nat) (i23 : Nat) (s23 : Sto) (pl : va_W) (ls : Array Slot) (H : Heap) (locs : List Loc), n23 + i23 = 256 → frm (M_MH_turned_2 pt) s s23 → s23.1 225 23 = nI 2 → s23.1 225 24 = nI 8 → s23.1 225 25 = nI 7 → s23.1 225 26 = nI 2 → s23.1 225 27 = nI 524288 → s23.1 225 28 = nI 261888 → s23.1 225 29 = nI 120 → s23.1 225 30 = nI 64 → F_MH_turned_2 pf pt s = F_MH_turned_2_L2 pt n23 i23 s23 → lv_has ls 8 [(3, .int (nI i23)), (0, .ref h0), (2, .ref to)] → okn g T s23 pl → va_P g.1 vcl ([] ++ pl) H → va_D A ([] ++ pl) → va_S A s0.heap H locs → W p l e ({ frames := 0, cells := 0, slots := 0, locals := 0 } : Room) s0 m args below meth c H locs 0 0 (MQ below (va_Qv (fun (u : (Sto) × va_W) => (u.1 = F_MH_turned_2 pf pt s ∧ frm (M_MH_turned_2 pt) s u.1 ∧ True) ∧ okn g T u.1 u.2) (po g.1 vcl A (fun (u : (Sto) × va_W) => [] ++ u.2)) A) args s0 0 0 A) (F0 m 128 ls []) := by
            intro n23
            induction n23 with
            | zero =>
              intro i23 s23 pl ls H locs hm23 hF hf37 hf38 hf39 hf40 hf41 hf42 hf43 hf44 hR hl hO hP hD hS
              refine lv_iload_n hx hb dMH_turned_128 rfl (lv_at hl 0 rfl) ?_
              refine lv_sipush (v := nI 256) hx hb dMH_turned_129 (by decide) ?_
              refine mi_ge (tgt := 175) hx hb dMH_turned_132 (by decide) (by omega) (by omega) (fun h23 => ?_) (fun h23 => absurd h23 (by omega))
              exact mp_vret hx hb hr hlk hP hD hS (s23, pl) ⟨⟨hR.symm, hF, trivial⟩, hO⟩ [] rfl rfl rfl (by omega) (by omega) dMH_turned_175
            | succ n23 ih23 =>
              intro i23 s23 pl ls H locs hm23 hF hf45 hf46 hf47 hf48 hf49 hf50 hf51 hf52 hR hl hO hP hD hS
              refine lv_iload_n hx hb dMH_turned_128 rfl (lv_at hl 0 rfl) ?_
              refine lv_sipush (v := nI 256) hx hb dMH_turned_129 (by decide) ?_
              refine mi_ge (tgt := 175) hx hb dMH_turned_132 (by decide) (by omega) (by omega) (fun h24 => absurd h24 (by omega)) (fun h24 => ?_)
              refine lv_aload_n hx hb dMH_turned_135 rfl (lv_at hl 1 rfl) ?_
              refine nw_get (C := "LatticeKeysModel$Hands") (TT := T_MH) (N := 31) hx hb hts (wg_ft i_MH) hown hK hO k_h0 (kn := 225) (ci := 12) (fl := [(3, 172), (3, 181), (3, 226), (3, 291), (3, 299), (3, 308), (3, 317), (3, 326), (3, 334), (3, 342), (3, 350), (3, 359), (3, 368), (3, 369), (3, 370), (3, 371), (3, 372), (3, 373), (3, 374), (3, 375), (3, 376), (3, 377), (3, 378), (0, 0), (0, 0), (0, 0), (0, 0), (0, 0), (0, 0), (0, 0), (0, 0)]) rfl hP rfl 15 (by decide) (hts _ (wg_t kw_1447)) (fun _ h9 => h9) (cd := (3, 371)) rfl dMH_turned_136 (fun v21 hv21 => ?_)
              obtain ⟨r21, rfl, kr21⟩ := (show ∃ r : Nat, v21 = .ref r ∧ T r = some 371 from hv21)
              refine lv_iload_n hx hb dMH_turned_139 rfl (lv_at hl 0 rfl) ?_
              refine nw_lald hx hb hK hO kr21 (k := 371) rfl hP (by omega) (by omega) dMH_turned_140 ?_
              refine lv_ldc2 (v := (8380417)) hx hb hown (hts _ (wg_t kw_1738)) dMH_turned_141 ?_
              refine lv_lrem hx hb dMH_turned_144 (by decide) ?_
              refine ml_eqv (fun y21 ez21 => ?_)
              replace hR := bnd_step hR ez21
              refine lv_lstore (lv' := [(4, .long y21), (3, .int (nI i23)), (0, .ref h0), (2, .ref to)]) hx hb dMH_turned_145 hl (by decide) rfl (fun ls hl => ?_)
              refine lv_aload_n hx hb dMH_turned_147 rfl (lv_at hl 3 rfl) ?_
              refine lv_iload_n hx hb dMH_turned_148 rfl (lv_at hl 1 rfl) ?_
              refine lv_lload hx hb dMH_turned_149 (lv_at hl 0 rfl) ?_
              refine lv_lconst (v := 0) hx hb dMH_turned_151 (by decide) ?_
              refine W.lcmp hx hb dMH_turned_152 ?_
              refine lv_if_ge (tgt := 165) hx hb dMH_turned_153 (by decide) (fun h25 => ?_) (fun h25 => ?_)
              · replace hR := hR.trans (if_pos h25)
                refine lv_lload hx hb dMH_turned_165 (lv_at hl 0 rfl) ?_
                refine lv_l2i hx hb dMH_turned_167 rfl ?_
                refine nw_iast hx hb hK hO hU k_to (k := pt) n_to hP hD hS (by omega) (by omega) dMH_turned_168 (fun s24 pl H locs es21 hO hP hD hS => ?_)
                replace hR := bnd_step hR es21
                have hF := frm_sI hF es21 (by unfold M_MH_turned_2; omega)
                have hf53 : s24.1 225 23 = nI 2 := fc_ne hf45 es21 (by omega)
                have hf54 : s24.1 225 24 = nI 8 := fc_ne hf46 es21 (by omega)
                have hf55 : s24.1 225 25 = nI 7 := fc_ne hf47 es21 (by omega)
                have hf56 : s24.1 225 26 = nI 2 := fc_ne hf48 es21 (by omega)
                have hf57 : s24.1 225 27 = nI 524288 := fc_ne hf49 es21 (by omega)
                have hf58 : s24.1 225 28 = nI 261888 := fc_ne hf50 es21 (by omega)
                have hf59 : s24.1 225 29 = nI 120 := fc_ne hf51 es21 (by omega)
                have hf60 : s24.1 225 30 = nI 64 := fc_ne hf52 es21 (by omega)
                refine mi_iinc (k := 1) (x := i23) (d := 1) (y := i23 + 1) (lv' := [(3, .int (nI (i23 + 1))), (4, .long y21), (0, .ref h0), (2, .ref to)]) hx hb dMH_turned_169 hl rfl (by decide) rfl (by decide) rfl (fun ls hl => ?_)
                refine lv_goto (tgt := 128) hx hb dMH_turned_172 (by decide) ?_
                exact ih23 (i23 + 1) s24 pl ls H locs (by omega) hF hf53 hf54 hf55 hf56 hf57 hf58 hf59 hf60 hR (lv_sub hl [0, 2, 3] rfl) hO hP hD hS
              · replace hR := hR.trans (if_neg h25)
                refine lv_lload hx hb dMH_turned_156 (lv_at hl 0 rfl) ?_
                refine lv_ldc2 (v := (8380417)) hx hb hown (hts _ (wg_t kw_1738)) dMH_turned_158 ?_
                refine lv_ladd hx hb dMH_turned_161 ?_
                refine lv_goto (tgt := 167) hx hb dMH_turned_162 (by decide) ?_
                refine lv_l2i hx hb dMH_turned_167 rfl ?_
                refine nw_iast hx hb hK hO hU k_to (k := pt) n_to hP hD hS (by omega) (by omega) dMH_turned_168 (fun s25 pl H locs es22 hO hP hD hS => ?_)
                replace hR := bnd_step hR es22
                have hF := frm_sI hF es22 (by unfold M_MH_turned_2; omega)
                have hf61 : s25.1 225 23 = nI 2 := fc_ne hf45 es22 (by omega)
                have hf62 : s25.1 225 24 = nI 8 := fc_ne hf46 es22 (by omega)
                have hf63 : s25.1 225 25 = nI 7 := fc_ne hf47 es22 (by omega)
                have hf64 : s25.1 225 26 = nI 2 := fc_ne hf48 es22 (by omega)
                have hf65 : s25.1 225 27 = nI 524288 := fc_ne hf49 es22 (by omega)
                have hf66 : s25.1 225 28 = nI 261888 := fc_ne hf50 es22 (by omega)
                have hf67 : s25.1 225 29 = nI 120 := fc_ne hf51 es22 (by omega)
                have hf68 : s25.1 225 30 = nI 64 := fc_ne hf52 es22 (by omega)
                refine mi_iinc (k := 1) (x := i23) (d := 1) (y := i23 + 1) (lv' := [(3, .int (nI (i23 + 1))), (4, .long y21), (0, .ref h0), (2, .ref to)]) hx hb dMH_turned_169 hl rfl (by decide) rfl (by decide) rfl (fun ls hl => ?_)
                refine lv_goto (tgt := 128) hx hb dMH_turned_172 (by decide) ?_
                exact ih23 (i23 + 1) s25 pl ls H locs (by omega) hF hf61 hf62 hf63 hf64 hf65 hf66 hf67 hf68 hR (lv_sub hl [0, 2, 3] rfl) hO hP hD hS
          exact lp23 256 0 s22 pl ls _ _ (by omega) hF hf29 hf30 hf31 hf32 hf33 hf34 hf35 hf36 hR (lv_sub hl [0, 1, 3] rfl) hO hP hD hS
        | succ n22 ih22 =>
          intro i22 s22 pl ls H locs hm22 hF hf69 hf70 hf71 hf72 hf73 hf74 hf75 hf76 hR hl hO hP hD hS
          refine lv_iload_n hx hb dMH_turned_24 rfl (lv_at hl 0 rfl) ?_
          refine lv_sipush (v := nI 256) hx hb dMH_turned_25 (by decide) ?_
          refine mi_ge (tgt := 126) hx hb dMH_turned_28 (by decide) (by omega) (by omega) (fun h26 => absurd h26 (by omega)) (fun h26 => ?_)
          refine lv_aload_n hx hb dMH_turned_31 rfl (lv_at hl 1 rfl) ?_
          refine nw_get (C := "LatticeKeysModel$Hands") (TT := T_MH) (N := 31) hx hb hts (wg_ft i_MH) hown hK hO k_h0 (kn := 225) (ci := 12) (fl := [(3, 172), (3, 181), (3, 226), (3, 291), (3, 299), (3, 308), (3, 317), (3, 326), (3, 334), (3, 342), (3, 350), (3, 359), (3, 368), (3, 369), (3, 370), (3, 371), (3, 372), (3, 373), (3, 374), (3, 375), (3, 376), (3, 377), (3, 378), (0, 0), (0, 0), (0, 0), (0, 0), (0, 0), (0, 0), (0, 0), (0, 0)]) rfl hP rfl 12 (by decide) (hts _ (wg_t kw_1444)) (fun _ h9 => h9) (cd := (3, 368)) rfl dMH_turned_32 (fun v22 hv22 => ?_)
          obtain ⟨r22, rfl, kr22⟩ := (show ∃ r : Nat, v22 = .ref r ∧ T r = some 368 from hv22)
          refine lv_iload_n hx hb dMH_turned_35 rfl (lv_at hl 0 rfl) ?_
          refine nw_iald hx hb hK hO kr22 (k := 368) rfl hP (by omega) (by omega) dMH_turned_36 ?_
          refine lv_if_ne (tgt := 43) hx hb dMH_turned_37 (by decide) (fun h27 => ?_) (fun h27 => ?_)
          · replace hR := hR.trans (if_neg h27)
            refine lv_iconst (v := nI 0) hx hb dMH_turned_43 (by decide) ?_
            refine lv_istore (lv' := [(4, .int (nI 0)), (3, .int (nI i22)), (0, .ref h0), (1, .ref f), (2, .ref to)]) hx hb dMH_turned_44 hl (by decide) rfl (fun ls hl => ?_)
            have lp24 : ∀ (n24 : Nat) (i24 : Nat) (s26 : Sto) (pl : va_W) (ls : Array Slot) (H : Heap) (locs : List Loc), n24 + i24 = 256 → frm (M_MH_turned_2 pt) s s26 → s26.1 225 23 = nI 2 → s26.1 225 24 = nI 8 → s26.1 225 25 = nI 7 → s26.1 225 26 = nI 2 → s26.1 225 27 = nI 524288 → s26.1 225 28 = nI 261888 → s26.1 225 29 = nI 120 → s26.1 225 30 = nI 64 → F_MH_turned_2 pf pt s = F_MH_turned_2_L3 pf i22 (F_MH_turned_2_L1 pf pt n22) n24 i24 s26 → lv_has ls 8 [(4, .int (nI i24)), (3, .int (nI i22)), (0, .ref h0), (1, .ref f), (2, .ref to)] → okn g T s26 pl → va_P g.1 vcl ([] ++ pl) H → va_D A ([] ++ pl) → va_S A s0.heap H locs → W p l e ({ frames := 0, cells := 0, slots := 0, locals := 0 } : Room) s0 m args below meth c H locs 0 0 (MQ below (va_Qv (fun (u : (Sto) × va_W) => (u.1 = F_MH_turned_2 pf pt s ∧ frm (M_MH_turned_2 pt) s u.1 ∧ True) ∧ okn g T u.1 u.2) (po g.1 vcl A (fun (u : (Sto) × va_W) => [] ++ u.2)) A) args s0 0 0 A) (F0 m 46 ls []) := by
              intro n24
              induction n24 with
              | zero =>
                intro i24 s26 pl ls H locs hm24 hF hf77 hf78 hf79 hf80 hf81 hf82 hf83 hf84 hR hl hO hP hD hS
                refine lv_iload hx hb dMH_turned_46 (lv_at hl 0 rfl) ?_
                refine lv_sipush (v := nI 256) hx hb dMH_turned_48 (by decide) ?_
                refine mi_ge (tgt := 120) hx hb dMH_turned_51 (by decide) (by omega) (by omega) (fun h28 => ?_) (fun h28 => absurd h28 (by omega))
                refine mi_iinc (k := 1) (x := i22) (d := 1) (y := i22 + 1) (lv' := [(3, .int (nI (i22 + 1))), (4, .int (nI i24)), (0, .ref h0), (1, .ref f), (2, .ref to)]) hx hb dMH_turned_120 hl rfl (by decide) rfl (by decide) rfl (fun ls hl => ?_)
                refine lv_goto (tgt := 24) hx hb dMH_turned_123 (by decide) ?_
                exact ih22 (i22 + 1) s26 pl ls H locs (by omega) hF hf77 hf78 hf79 hf80 hf81 hf82 hf83 hf84 hR (lv_sub hl [0, 2, 3, 4] rfl) hO hP hD hS
              | succ n24 ih24 =>
                intro i24 s26 pl ls H locs hm24 hF hf85 hf86 hf87 hf88 hf89 hf90 hf91 hf92 hR hl hO hP hD hS
                refine lv_iload hx hb dMH_turned_46 (lv_at hl 0 rfl) ?_
                refine lv_sipush (v := nI 256) hx hb dMH_turned_48 (by decide) ?_
                refine mi_ge (tgt := 120) hx hb dMH_turned_51 (by decide) (by omega) (by omega) (fun h29 => absurd h29 (by omega)) (fun h29 => ?_)
                refine lv_iload_n hx hb dMH_turned_54 rfl (lv_at hl 1 rfl) ?_
                refine lv_iload hx hb dMH_turned_55 (lv_at hl 0 rfl) ?_
                refine mi_iadd hx hb dMH_turned_57 ?_
                refine lv_istore (lv' := [(5, .int (nI (i22 + i24))), (4, .int (nI i24)), (3, .int (nI i22)), (0, .ref h0), (1, .ref f), (2, .ref to)]) hx hb dMH_turned_58 hl (by decide) rfl (fun ls hl => ?_)
                refine lv_aload_n hx hb dMH_turned_60 rfl (lv_at hl 3 rfl) ?_
                refine nw_get (C := "LatticeKeysModel$Hands") (TT := T_MH) (N := 31) hx hb hts (wg_ft i_MH) hown hK hO k_h0 (kn := 225) (ci := 12) (fl := [(3, 172), (3, 181), (3, 226), (3, 291), (3, 299), (3, 308), (3, 317), (3, 326), (3, 334), (3, 342), (3, 350), (3, 359), (3, 368), (3, 369), (3, 370), (3, 371), (3, 372), (3, 373), (3, 374), (3, 375), (3, 376), (3, 377), (3, 378), (0, 0), (0, 0), (0, 0), (0, 0), (0, 0), (0, 0), (0, 0), (0, 0)]) rfl hP rfl 12 (by decide) (hts _ (wg_t kw_1444)) (fun _ h9 => h9) (cd := (3, 368)) rfl dMH_turned_61 (fun v23 hv23 => ?_)
                obtain ⟨r23, rfl, kr23⟩ := (show ∃ r : Nat, v23 = .ref r ∧ T r = some 368 from hv23)
                refine lv_iload_n hx hb dMH_turned_64 rfl (lv_at hl 2 rfl) ?_
                refine nw_iald hx hb hK hO kr23 (k := 368) rfl hP (by omega) (by omega) dMH_turned_65 ?_
                refine lv_i2l hx hb dMH_turned_66 rfl ?_
                refine lv_aload_n hx hb dMH_turned_67 rfl (lv_at hl 4 rfl) ?_
                refine lv_iload hx hb dMH_turned_68 (lv_at hl 1 rfl) ?_
                refine nw_iald hx hb hK hO k_f (k := pf) n_f hP (by omega) (by omega) dMH_turned_70 ?_
                refine lv_i2l hx hb dMH_turned_71 rfl ?_
                refine lv_lmul hx hb dMH_turned_72 ?_
                refine ml_eqv (fun y22 ez22 => ?_)
                replace hR := bnd_step hR ez22
                refine lv_lstore (lv' := [(6, .long y22), (5, .int (nI (i22 + i24))), (4, .int (nI i24)), (3, .int (nI i22)), (0, .ref h0), (1, .ref f), (2, .ref to)]) hx hb dMH_turned_73 hl (by decide) rfl (fun ls hl => ?_)
                refine lv_iload hx hb dMH_turned_75 (lv_at hl 1 rfl) ?_
                refine lv_sipush (v := nI 256) hx hb dMH_turned_77 (by decide) ?_
                refine mi_ge (tgt := 98) hx hb dMH_turned_80 (by decide) (by omega) (by omega) (fun h30 => ?_) (fun h30 => ?_)
                · replace hR := hR.trans (if_pos h30)
                  refine lv_aload_n hx hb dMH_turned_98 rfl (lv_at hl 4 rfl) ?_
                  refine nw_get (C := "LatticeKeysModel$Hands") (TT := T_MH) (N := 31) hx hb hts (wg_ft i_MH) hown hK hO k_h0 (kn := 225) (ci := 12) (fl := [(3, 172), (3, 181), (3, 226), (3, 291), (3, 299), (3, 308), (3, 317), (3, 326), (3, 334), (3, 342), (3, 350), (3, 359), (3, 368), (3, 369), (3, 370), (3, 371), (3, 372), (3, 373), (3, 374), (3, 375), (3, 376), (3, 377), (3, 378), (0, 0), (0, 0), (0, 0), (0, 0), (0, 0), (0, 0), (0, 0), (0, 0)]) rfl hP rfl 15 (by decide) (hts _ (wg_t kw_1447)) (fun _ h9 => h9) (cd := (3, 371)) rfl dMH_turned_99 (fun v24 hv24 => ?_)
                  obtain ⟨r24, rfl, kr24⟩ := (show ∃ r : Nat, v24 = .ref r ∧ T r = some 371 from hv24)
                  refine lv_iload hx hb dMH_turned_102 (lv_at hl 1 rfl) ?_
                  refine lv_sipush (v := nI 256) hx hb dMH_turned_104 (by decide) ?_
                  refine mi_isub hx hb dMH_turned_107 (by omega) ?_
                  refine lv_dup2_11 hx hb dMH_turned_108 rfl rfl ?_
                  refine nw_lald hx hb hK hO kr24 (k := 371) rfl hP (by omega) (by omega) dMH_turned_109 ?_
                  refine lv_lload hx hb dMH_turned_110 (lv_at hl 0 rfl) ?_
                  refine lv_lsub hx hb dMH_turned_112 ?_
                  refine nw_last hx hb hK hO hU kr24 (k := 371) rfl hP hD hS (by omega) (by omega) dMH_turned_113 (fun s27 pl H locs es23 hO hP hD hS => ?_)
                  replace hR := bnd_step hR es23
                  have hF := frm_sL hF es23
                  have hf93 : s27.1 225 23 = nI 2 := fc_L hf85 es23
                  have hf94 : s27.1 225 24 = nI 8 := fc_L hf86 es23
                  have hf95 : s27.1 225 25 = nI 7 := fc_L hf87 es23
                  have hf96 : s27.1 225 26 = nI 2 := fc_L hf88 es23
                  have hf97 : s27.1 225 27 = nI 524288 := fc_L hf89 es23
                  have hf98 : s27.1 225 28 = nI 261888 := fc_L hf90 es23
                  have hf99 : s27.1 225 29 = nI 120 := fc_L hf91 es23
                  have hf100 : s27.1 225 30 = nI 64 := fc_L hf92 es23
                  refine mi_iinc (k := 2) (x := i24) (d := 1) (y := i24 + 1) (lv' := [(4, .int (nI (i24 + 1))), (6, .long y22), (5, .int (nI (i22 + i24))), (3, .int (nI i22)), (0, .ref h0), (1, .ref f), (2, .ref to)]) hx hb dMH_turned_114 hl rfl (by decide) rfl (by decide) rfl (fun ls hl => ?_)
                  refine lv_goto (tgt := 46) hx hb dMH_turned_117 (by decide) ?_
                  exact ih24 (i24 + 1) s27 pl ls H locs (by omega) hF hf93 hf94 hf95 hf96 hf97 hf98 hf99 hf100 hR (lv_sub hl [0, 3, 4, 5, 6] rfl) hO hP hD hS
                · replace hR := hR.trans (if_neg (Nat.not_le.mpr h30))
                  refine lv_aload_n hx hb dMH_turned_83 rfl (lv_at hl 4 rfl) ?_
                  refine nw_get (C := "LatticeKeysModel$Hands") (TT := T_MH) (N := 31) hx hb hts (wg_ft i_MH) hown hK hO k_h0 (kn := 225) (ci := 12) (fl := [(3, 172), (3, 181), (3, 226), (3, 291), (3, 299), (3, 308), (3, 317), (3, 326), (3, 334), (3, 342), (3, 350), (3, 359), (3, 368), (3, 369), (3, 370), (3, 371), (3, 372), (3, 373), (3, 374), (3, 375), (3, 376), (3, 377), (3, 378), (0, 0), (0, 0), (0, 0), (0, 0), (0, 0), (0, 0), (0, 0), (0, 0)]) rfl hP rfl 15 (by decide) (hts _ (wg_t kw_1447)) (fun _ h9 => h9) (cd := (3, 371)) rfl dMH_turned_84 (fun v25 hv25 => ?_)
                  obtain ⟨r25, rfl, kr25⟩ := (show ∃ r : Nat, v25 = .ref r ∧ T r = some 371 from hv25)
                  refine lv_iload hx hb dMH_turned_87 (lv_at hl 1 rfl) ?_
                  refine lv_dup2_11 hx hb dMH_turned_89 rfl rfl ?_
                  refine nw_lald hx hb hK hO kr25 (k := 371) rfl hP (by omega) (by omega) dMH_turned_90 ?_
                  refine lv_lload hx hb dMH_turned_91 (lv_at hl 0 rfl) ?_
                  refine lv_ladd hx hb dMH_turned_93 ?_
                  refine nw_last hx hb hK hO hU kr25 (k := 371) rfl hP hD hS (by omega) (by omega) dMH_turned_94 (fun s28 pl H locs es24 hO hP hD hS => ?_)
                  replace hR := bnd_step hR es24
                  have hF := frm_sL hF es24
                  have hf101 : s28.1 225 23 = nI 2 := fc_L hf85 es24
                  have hf102 : s28.1 225 24 = nI 8 := fc_L hf86 es24
                  have hf103 : s28.1 225 25 = nI 7 := fc_L hf87 es24
                  have hf104 : s28.1 225 26 = nI 2 := fc_L hf88 es24
                  have hf105 : s28.1 225 27 = nI 524288 := fc_L hf89 es24
                  have hf106 : s28.1 225 28 = nI 261888 := fc_L hf90 es24
                  have hf107 : s28.1 225 29 = nI 120 := fc_L hf91 es24
                  have hf108 : s28.1 225 30 = nI 64 := fc_L hf92 es24
                  refine lv_goto (tgt := 114) hx hb dMH_turned_95 (by decide) ?_
                  refine mi_iinc (k := 2) (x := i24) (d := 1) (y := i24 + 1) (lv' := [(4, .int (nI (i24 + 1))), (6, .long y22), (5, .int (nI (i22 + i24))), (3, .int (nI i22)), (0, .ref h0), (1, .ref f), (2, .ref to)]) hx hb dMH_turned_114 hl rfl (by decide) rfl (by decide) rfl (fun ls hl => ?_)
                  refine lv_goto (tgt := 46) hx hb dMH_turned_117 (by decide) ?_
                  exact ih24 (i24 + 1) s28 pl ls H locs (by omega) hF hf101 hf102 hf103 hf104 hf105 hf106 hf107 hf108 hR (lv_sub hl [0, 3, 4, 5, 6] rfl) hO hP hD hS
            exact lp24 256 0 s22 pl ls _ _ (by omega) hF hf69 hf70 hf71 hf72 hf73 hf74 hf75 hf76 hR (lv_sub hl [0, 1, 2, 3, 4] rfl) hO hP hD hS
          · replace hR := hR.trans (if_pos h27)
            refine lv_goto (tgt := 120) hx hb dMH_turned_40 (by decide) ?_
            refine mi_iinc (k := 0) (x := i22) (d := 1) (y := i22 + 1) (lv' := [(3, .int (nI (i22 + 1))), (0, .ref h0), (1, .ref f), (2, .ref to)]) hx hb dMH_turned_120 hl rfl (by decide) rfl (by decide) rfl (fun ls hl => ?_)
            refine lv_goto (tgt := 24) hx hb dMH_turned_123 (by decide) ?_
            exact ih22 (i22 + 1) s22 pl ls H locs (by omega) hF hf69 hf70 hf71 hf72 hf73 hf74 hf75 hf76 hR (lv_sub hl [0, 1, 2, 3] rfl) hO hP hD hS
      exact lp22 256 0 s21 pl ls _ _ (by omega) hF hf21 hf22 hf23 hf24 hf25 hf26 hf27 hf28 hR (lv_sub hl [0, 1, 2, 3] rfl) hO hP hD hS
    | succ n21 ih21 =>
      intro i21 s21 pl ls H locs hm21 hF hf109 hf110 hf111 hf112 hf113 hf114 hf115 hf116 hR hl hO hP hD hS
      refine lv_iload_n hx hb dMH_turned_2 rfl (lv_at hl 0 rfl) ?_
      refine lv_sipush (v := nI 256) hx hb dMH_turned_3 (by decide) ?_
      refine mi_ge (tgt := 22) hx hb dMH_turned_6 (by decide) (by omega) (by omega) (fun h31 => absurd h31 (by omega)) (fun h31 => ?_)
      refine lv_aload_n hx hb dMH_turned_9 rfl (lv_at hl 1 rfl) ?_
      refine nw_get (C := "LatticeKeysModel$Hands") (TT := T_MH) (N := 31) hx hb hts (wg_ft i_MH) hown hK hO k_h0 (kn := 225) (ci := 12) (fl := [(3, 172), (3, 181), (3, 226), (3, 291), (3, 299), (3, 308), (3, 317), (3, 326), (3, 334), (3, 342), (3, 350), (3, 359), (3, 368), (3, 369), (3, 370), (3, 371), (3, 372), (3, 373), (3, 374), (3, 375), (3, 376), (3, 377), (3, 378), (0, 0), (0, 0), (0, 0), (0, 0), (0, 0), (0, 0), (0, 0), (0, 0)]) rfl hP rfl 15 (by decide) (hts _ (wg_t kw_1447)) (fun _ h9 => h9) (cd := (3, 371)) rfl dMH_turned_10 (fun v26 hv26 => ?_)
      obtain ⟨r26, rfl, kr26⟩ := (show ∃ r : Nat, v26 = .ref r ∧ T r = some 371 from hv26)
      refine lv_iload_n hx hb dMH_turned_13 rfl (lv_at hl 0 rfl) ?_
      refine lv_lconst (v := 0) hx hb dMH_turned_14 (by decide) ?_
      refine nw_last hx hb hK hO hU kr26 (k := 371) rfl hP hD hS (by omega) (by omega) dMH_turned_15 (fun s29 pl H locs es25 hO hP hD hS => ?_)
      replace hR := bnd_step hR es25
      have hF := frm_sL hF es25
      have hf117 : s29.1 225 23 = nI 2 := fc_L hf109 es25
      have hf118 : s29.1 225 24 = nI 8 := fc_L hf110 es25
      have hf119 : s29.1 225 25 = nI 7 := fc_L hf111 es25
      have hf120 : s29.1 225 26 = nI 2 := fc_L hf112 es25
      have hf121 : s29.1 225 27 = nI 524288 := fc_L hf113 es25
      have hf122 : s29.1 225 28 = nI 261888 := fc_L hf114 es25
      have hf123 : s29.1 225 29 = nI 120 := fc_L hf115 es25
      have hf124 : s29.1 225 30 = nI 64 := fc_L hf116 es25
      refine mi_iinc (k := 0) (x := i21) (d := 1) (y := i21 + 1) (lv' := [(3, .int (nI (i21 + 1))), (0, .ref h0), (1, .ref f), (2, .ref to)]) hx hb dMH_turned_16 hl rfl (by decide) rfl (by decide) rfl (fun ls hl => ?_)
      refine lv_goto (tgt := 2) hx hb dMH_turned_19 (by decide) ?_
      exact ih21 (i21 + 1) s29 pl ls H locs (by omega) hF hf117 hf118 hf119 hf120 hf121 hf122 hf123 hf124 hR (lv_sub hl [0, 1, 2, 3] rfl) hO hP hD hS
  exact lp21 256 0 s pl ls _ _ (by omega) hF e_c0 e_c1 e_c2 e_c3 e_c4 e_c5 e_c6 e_c7 hR (lv_sub hl [0, 1, 2, 3] rfl) hO hP hD hS
