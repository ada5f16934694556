abbrev c_MH_openSize : ByteArray := prog_13_method_2_code
abbrev y_MH_openSize : MethodName := ⟨"LatticeKeysModel$Hands", "openSize", "(I)I"⟩
abbrev w_MH_openSize : List Cond := Cond.code y_MH_openSize c_MH_openSize 1 (some .int) :: WG
theorem dMH_openSize_0 : decode c_MH_openSize 0 = .ok (.bipush 32, 2) := by decide +kernel
theorem dMH_openSize_2 : decode c_MH_openSize 2 = .ok (.sipush 320, 3) := by decide +kernel
theorem dMH_openSize_5 : decode c_MH_openSize 5 = .ok (.getstatic 91, 3) := by decide +kernel
theorem dMH_openSize_8 : decode c_MH_openSize 8 = .ok (.iload_n 0, 1) := by decide +kernel
theorem dMH_openSize_9 : decode c_MH_openSize 9 = .ok (.iaload, 1) := by decide +kernel
theorem dMH_openSize_10 : decode c_MH_openSize 10 = .ok (.imul, 1) := by decide +kernel
theorem dMH_openSize_11 : decode c_MH_openSize 11 = .ok (.iadd, 1) := by decide +kernel
theorem dMH_openSize_12 : decode c_MH_openSize 12 = .ok (.ireturn, 1) := by decide +kernel
abbrev c_MH_hiddenSize : ByteArray := prog_13_method_3_code
abbrev y_MH_hiddenSize : MethodName := ⟨"LatticeKeysModel$Hands", "hiddenSize", "(I)I"⟩
abbrev w_MH_hiddenSize : List Cond := Cond.code y_MH_hiddenSize c_MH_hiddenSize 1 (some .int) :: WG
theorem dMH_hiddenSize_0 : decode c_MH_hiddenSize 0 = .ok (.sipush 128, 3) := by decide +kernel
theorem dMH_hiddenSize_3 : decode c_MH_hiddenSize 3 = .ok (.bipush 32, 2) := by decide +kernel
theorem dMH_hiddenSize_5 : decode c_MH_hiddenSize 5 = .ok (.getstatic 94, 3) := by decide +kernel
theorem dMH_hiddenSize_8 : decode c_MH_hiddenSize 8 = .ok (.iload_n 0, 1) := by decide +kernel
theorem dMH_hiddenSize_9 : decode c_MH_hiddenSize 9 = .ok (.iaload, 1) := by decide +kernel
theorem dMH_hiddenSize_10 : decode c_MH_hiddenSize 10 = .ok (.iconst 2, 1) := by decide +kernel
theorem dMH_hiddenSize_11 : decode c_MH_hiddenSize 11 = .ok (.if_icmp .ne 7, 3) := by decide +kernel
theorem dMH_hiddenSize_14 : decode c_MH_hiddenSize 14 = .ok (.iconst 3, 1) := by decide +kernel
theorem dMH_hiddenSize_15 : decode c_MH_hiddenSize 15 = .ok (.goto 4, 3) := by decide +kernel
theorem dMH_hiddenSize_18 : decode c_MH_hiddenSize 18 = .ok (.iconst 4, 1) := by decide +kernel
theorem dMH_hiddenSize_19 : decode c_MH_hiddenSize 19 = .ok (.imul, 1) := by decide +kernel
theorem dMH_hiddenSize_20 : decode c_MH_hiddenSize 20 = .ok (.getstatic 91, 3) := by decide +kernel
theorem dMH_hiddenSize_23 : decode c_MH_hiddenSize 23 = .ok (.iload_n 0, 1) := by decide +kernel
theorem dMH_hiddenSize_24 : decode c_MH_hiddenSize 24 = .ok (.iaload, 1) := by decide +kernel
theorem dMH_hiddenSize_25 : decode c_MH_hiddenSize 25 = .ok (.getstatic 97, 3) := by decide +kernel
theorem dMH_hiddenSize_28 : decode c_MH_hiddenSize 28 = .ok (.iload_n 0, 1) := by decide +kernel
theorem dMH_hiddenSize_29 : decode c_MH_hiddenSize 29 = .ok (.iaload, 1) := by decide +kernel
theorem dMH_hiddenSize_30 : decode c_MH_hiddenSize 30 = .ok (.iadd, 1) := by decide +kernel
theorem dMH_hiddenSize_31 : decode c_MH_hiddenSize 31 = .ok (.imul, 1) := by decide +kernel
theorem dMH_hiddenSize_32 : decode c_MH_hiddenSize 32 = .ok (.iadd, 1) := by decide +kernel
theorem dMH_hiddenSize_33 : decode c_MH_hiddenSize 33 = .ok (.sipush 416, 3) := by decide +kernel
theorem dMH_hiddenSize_36 : decode c_MH_hiddenSize 36 = .ok (.getstatic 91, 3) := by decide +kernel
theorem dMH_hiddenSize_39 : decode c_MH_hiddenSize 39 = .ok (.iload_n 0, 1) := by decide +kernel
theorem dMH_hiddenSize_40 : decode c_MH_hiddenSize 40 = .ok (.iaload, 1) := by decide +kernel
theorem dMH_hiddenSize_41 : decode c_MH_hiddenSize 41 = .ok (.imul, 1) := by decide +kernel
theorem dMH_hiddenSize_42 : decode c_MH_hiddenSize 42 = .ok (.iadd, 1) := by decide +kernel
theorem dMH_hiddenSize_43 : decode c_MH_hiddenSize 43 = .ok (.ireturn, 1) := by decide +kernel
abbrev c_MH_markSize : ByteArray := prog_13_method_4_code
abbrev y_MH_markSize : MethodName := ⟨"LatticeKeysModel$Hands", "markSize", "(I)I"⟩
abbrev w_MH_markSize : List Cond := Cond.code y_MH_markSize c_MH_markSize 1 (some .int) :: WG
theorem dMH_markSize_0 : decode c_MH_markSize 0 = .ok (.bipush 32, 2) := by decide +kernel
theorem dMH_markSize_2 : decode c_MH_markSize 2 = .ok (.bipush 16, 2) := by decide +kernel
theorem dMH_markSize_4 : decode c_MH_markSize 4 = .ok (.iload_n 0, 1) := by decide +kernel
theorem dMH_markSize_5 : decode c_MH_markSize 5 = .ok (.imul, 1) := by decide +kernel
theorem dMH_markSize_6 : decode c_MH_markSize 6 = .ok (.iadd, 1) := by decide +kernel
theorem dMH_markSize_7 : decode c_MH_markSize 7 = .ok (.bipush 32, 2) := by decide +kernel
theorem dMH_markSize_9 : decode c_MH_markSize 9 = .ok (.iload_n 0, 1) := by decide +kernel
theorem dMH_markSize_10 : decode c_MH_markSize 10 = .ok (.ifCond .ne 8, 3) := by decide +kernel
theorem dMH_markSize_13 : decode c_MH_markSize 13 = .ok (.bipush 18, 2) := by decide +kernel
theorem dMH_markSize_15 : decode c_MH_markSize 15 = .ok (.goto 5, 3) := by decide +kernel
theorem dMH_markSize_18 : decode c_MH_markSize 18 = .ok (.bipush 20, 2) := by decide +kernel
theorem dMH_markSize_20 : decode c_MH_markSize 20 = .ok (.imul, 1) := by decide +kernel
theorem dMH_markSize_21 : decode c_MH_markSize 21 = .ok (.getstatic 97, 3) := by decide +kernel
theorem dMH_markSize_24 : decode c_MH_markSize 24 = .ok (.iload_n 0, 1) := by decide +kernel
theorem dMH_markSize_25 : decode c_MH_markSize 25 = .ok (.iaload, 1) := by decide +kernel
theorem dMH_markSize_26 : decode c_MH_markSize 26 = .ok (.imul, 1) := by decide +kernel
theorem dMH_markSize_27 : decode c_MH_markSize 27 = .ok (.iadd, 1) := by decide +kernel
theorem dMH_markSize_28 : decode c_MH_markSize 28 = .ok (.getstatic 100, 3) := by decide +kernel
theorem dMH_markSize_31 : decode c_MH_markSize 31 = .ok (.iload_n 0, 1) := by decide +kernel
theorem dMH_markSize_32 : decode c_MH_markSize 32 = .ok (.iaload, 1) := by decide +kernel
theorem dMH_markSize_33 : decode c_MH_markSize 33 = .ok (.iadd, 1) := by decide +kernel
theorem dMH_markSize_34 : decode c_MH_markSize 34 = .ok (.getstatic 91, 3) := by decide +kernel
theorem dMH_markSize_37 : decode c_MH_markSize 37 = .ok (.iload_n 0, 1) := by decide +kernel
theorem dMH_markSize_38 : decode c_MH_markSize 38 = .ok (.iaload, 1) := by decide +kernel
theorem dMH_markSize_39 : decode c_MH_markSize 39 = .ok (.iadd, 1) := by decide +kernel
theorem dMH_markSize_40 : decode c_MH_markSize 40 = .ok (.ireturn, 1) := by decide +kernel
abbrev c_MH_norm : ByteArray := prog_13_method_6_code
abbrev y_MH_norm : MethodName := ⟨"LatticeKeysModel$Hands", "norm", "(I)I"⟩
abbrev w_MH_norm : List Cond := Cond.code y_MH_norm c_MH_norm 1 (some .int) :: WG
theorem dMH_norm_0 : decode c_MH_norm 0 = .ok (.iload_n 0, 1) := by decide +kernel
theorem dMH_norm_1 : decode c_MH_norm 1 = .ok (.ldc 135, 2) := by decide +kernel
theorem dMH_norm_3 : decode c_MH_norm 3 = .ok (.if_icmp .le 10, 3) := by decide +kernel
theorem dMH_norm_6 : decode c_MH_norm 6 = .ok (.ldc 11, 2) := by decide +kernel
theorem dMH_norm_8 : decode c_MH_norm 8 = .ok (.iload_n 0, 1) := by decide +kernel
theorem dMH_norm_9 : decode c_MH_norm 9 = .ok (.isub, 1) := by decide +kernel
theorem dMH_norm_10 : decode c_MH_norm 10 = .ok (.goto 4, 3) := by decide +kernel
theorem dMH_norm_13 : decode c_MH_norm 13 = .ok (.iload_n 0, 1) := by decide +kernel
theorem dMH_norm_14 : decode c_MH_norm 14 = .ok (.ireturn, 1) := by decide +kernel
abbrev c_MH_minus : ByteArray := prog_13_method_11_code
abbrev y_MH_minus : MethodName := ⟨"LatticeKeysModel$Hands", "minus", "(II)I"⟩
abbrev w_MH_minus : List Cond := Cond.code y_MH_minus c_MH_minus 2 (some .int) :: WG
theorem dMH_minus_0 : decode c_MH_minus 0 = .ok (.iload_n 0, 1) := by decide +kernel
theorem dMH_minus_1 : decode c_MH_minus 1 = .ok (.iload_n 1, 1) := by decide +kernel
theorem dMH_minus_2 : decode c_MH_minus 2 = .ok (.if_icmp .ge 12, 3) := by decide +kernel
theorem dMH_minus_5 : decode c_MH_minus 5 = .ok (.iload_n 0, 1) := by decide +kernel
theorem dMH_minus_6 : decode c_MH_minus 6 = .ok (.iload_n 1, 1) := by decide +kernel
theorem dMH_minus_7 : decode c_MH_minus 7 = .ok (.isub, 1) := by decide +kernel
theorem dMH_minus_8 : decode c_MH_minus 8 = .ok (.ldc 11, 2) := by decide +kernel
theorem dMH_minus_10 : decode c_MH_minus 10 = .ok (.iadd, 1) := by decide +kernel
theorem dMH_minus_11 : decode c_MH_minus 11 = .ok (.goto 6, 3) := by decide +kernel
theorem dMH_minus_14 : decode c_MH_minus 14 = .ok (.iload_n 0, 1) := by decide +kernel
theorem dMH_minus_15 : decode c_MH_minus 15 = .ok (.iload_n 1, 1) := by decide +kernel
theorem dMH_minus_16 : decode c_MH_minus 16 = .ok (.isub, 1) := by decide +kernel
theorem dMH_minus_17 : decode c_MH_minus 17 = .ok (.ireturn, 1) := by decide +kernel
abbrev c_MH_low : ByteArray := prog_13_method_12_code
abbrev y_MH_low : MethodName := ⟨"LatticeKeysModel$Hands", "low", "(I)I"⟩
abbrev w_MH_low : List Cond := Cond.code y_MH_low c_MH_low 3 (some .int) :: WG
theorem dMH_low_0 : decode c_MH_low 0 = .ok (.iload_n 1, 1) := by decide +kernel
theorem dMH_low_1 : decode c_MH_low 1 = .ok (.iconst 2, 1) := by decide +kernel
theorem dMH_low_2 : decode c_MH_low 2 = .ok (.aload_n 0, 1) := by decide +kernel
theorem dMH_low_3 : decode c_MH_low 3 = .ok (.getfield 123, 3) := by decide +kernel
theorem dMH_low_6 : decode c_MH_low 6 = .ok (.imul, 1) := by decide +kernel
theorem dMH_low_7 : decode c_MH_low 7 = .ok (.irem, 1) := by decide +kernel
theorem dMH_low_8 : decode c_MH_low 8 = .ok (.istore_n 2, 1) := by decide +kernel
theorem dMH_low_9 : decode c_MH_low 9 = .ok (.iload_n 2, 1) := by decide +kernel
theorem dMH_low_10 : decode c_MH_low 10 = .ok (.aload_n 0, 1) := by decide +kernel
theorem dMH_low_11 : decode c_MH_low 11 = .ok (.getfield 123, 3) := by decide +kernel
theorem dMH_low_14 : decode c_MH_low 14 = .ok (.if_icmp .le 12, 3) := by decide +kernel
theorem dMH_low_17 : decode c_MH_low 17 = .ok (.iload_n 2, 1) := by decide +kernel
theorem dMH_low_18 : decode c_MH_low 18 = .ok (.iconst 2, 1) := by decide +kernel
theorem dMH_low_19 : decode c_MH_low 19 = .ok (.aload_n 0, 1) := by decide +kernel
theorem dMH_low_20 : decode c_MH_low 20 = .ok (.getfield 123, 3) := by decide +kernel
theorem dMH_low_23 : decode c_MH_low 23 = .ok (.imul, 1) := by decide +kernel
theorem dMH_low_24 : decode c_MH_low 24 = .ok (.isub, 1) := by decide +kernel
theorem dMH_low_25 : decode c_MH_low 25 = .ok (.istore_n 2, 1) := by decide +kernel
theorem dMH_low_26 : decode c_MH_low 26 = .ok (.iload_n 1, 1) := by decide +kernel
theorem dMH_low_27 : decode c_MH_low 27 = .ok (.iload_n 2, 1) := by decide +kernel
theorem dMH_low_28 : decode c_MH_low 28 = .ok (.isub, 1) := by decide +kernel
theorem dMH_low_29 : decode c_MH_low 29 = .ok (.ldc 165, 2) := by decide +kernel
theorem dMH_low_31 : decode c_MH_low 31 = .ok (.if_icmp .ne 9, 3) := by decide +kernel
theorem dMH_low_34 : decode c_MH_low 34 = .ok (.iload_n 2, 1) := by decide +kernel
theorem dMH_low_35 : decode c_MH_low 35 = .ok (.iconst 1, 1) := by decide +kernel
theorem dMH_low_36 : decode c_MH_low 36 = .ok (.isub, 1) := by decide +kernel
theorem dMH_low_37 : decode c_MH_low 37 = .ok (.goto 4, 3) := by decide +kernel
theorem dMH_low_40 : decode c_MH_low 40 = .ok (.iload_n 2, 1) := by decide +kernel
theorem dMH_low_41 : decode c_MH_low 41 = .ok (.ireturn, 1) := by decide +kernel
abbrev c_MH_high : ByteArray := prog_13_method_13_code
abbrev y_MH_high : MethodName := ⟨"LatticeKeysModel$Hands", "high", "(I)I"⟩
abbrev w_MH_high : List Cond := Cond.code y_MH_high c_MH_high 3 (some .int) :: WG
theorem dMH_high_0 : decode c_MH_high 0 = .ok (.iload_n 1, 1) := by decide +kernel
theorem dMH_high_1 : decode c_MH_high 1 = .ok (.iconst 2, 1) := by decide +kernel
theorem dMH_high_2 : decode c_MH_high 2 = .ok (.aload_n 0, 1) := by decide +kernel
theorem dMH_high_3 : decode c_MH_high 3 = .ok (.getfield 123, 3) := by decide +kernel
theorem dMH_high_6 : decode c_MH_high 6 = .ok (.imul, 1) := by decide +kernel
theorem dMH_high_7 : decode c_MH_high 7 = .ok (.irem, 1) := by decide +kernel
theorem dMH_high_8 : decode c_MH_high 8 = .ok (.istore_n 2, 1) := by decide +kernel
theorem dMH_high_9 : decode c_MH_high 9 = .ok (.iload_n 2, 1) := by decide +kernel
theorem dMH_high_10 : decode c_MH_high 10 = .ok (.aload_n 0, 1) := by decide +kernel
theorem dMH_high_11 : decode c_MH_high 11 = .ok (.getfield 123, 3) := by decide +kernel
theorem dMH_high_14 : decode c_MH_high 14 = .ok (.if_icmp .le 12, 3) := by decide +kernel
theorem dMH_high_17 : decode c_MH_high 17 = .ok (.iload_n 2, 1) := by decide +kernel
theorem dMH_high_18 : decode c_MH_high 18 = .ok (.iconst 2, 1) := by decide +kernel
theorem dMH_high_19 : decode c_MH_high 19 = .ok (.aload_n 0, 1) := by decide +kernel
theorem dMH_high_20 : decode c_MH_high 20 = .ok (.getfield 123, 3) := by decide +kernel
theorem dMH_high_23 : decode c_MH_high 23 = .ok (.imul, 1) := by decide +kernel
theorem dMH_high_24 : decode c_MH_high 24 = .ok (.isub, 1) := by decide +kernel
theorem dMH_high_25 : decode c_MH_high 25 = .ok (.istore_n 2, 1) := by decide +kernel
theorem dMH_high_26 : decode c_MH_high 26 = .ok (.iload_n 1, 1) := by decide +kernel
theorem dMH_high_27 : decode c_MH_high 27 = .ok (.iload_n 2, 1) := by decide +kernel
theorem dMH_high_28 : decode c_MH_high 28 = .ok (.isub, 1) := by decide +kernel
theorem dMH_high_29 : decode c_MH_high 29 = .ok (.ldc 165, 2) := by decide +kernel
theorem dMH_high_31 : decode c_MH_high 31 = .ok (.if_icmp .ne 7, 3) := by decide +kernel
theorem dMH_high_34 : decode c_MH_high 34 = .ok (.iconst 0, 1) := by decide +kernel
theorem dMH_high_35 : decode c_MH_high 35 = .ok (.goto 13, 3) := by decide +kernel
theorem dMH_high_38 : decode c_MH_high 38 = .ok (.iload_n 1, 1) := by decide +kernel
theorem dMH_high_39 : decode c_MH_high 39 = .ok (.iload_n 2, 1) := by decide +kernel
theorem dMH_high_40 : decode c_MH_high 40 = .ok (.isub, 1) := by decide +kernel
theorem dMH_high_41 : decode c_MH_high 41 = .ok (.iconst 2, 1) := by decide +kernel
theorem dMH_high_42 : decode c_MH_high 42 = .ok (.aload_n 0, 1) := by decide +kernel
theorem dMH_high_43 : decode c_MH_high 43 = .ok (.getfield 123, 3) := by decide +kernel
theorem dMH_high_46 : decode c_MH_high 46 = .ok (.imul, 1) := by decide +kernel
theorem dMH_high_47 : decode c_MH_high 47 = .ok (.idiv, 1) := by decide +kernel
theorem dMH_high_48 : decode c_MH_high 48 = .ok (.ireturn, 1) := by decide +kernel
abbrev c_MH_used : ByteArray := prog_13_method_19_code
abbrev y_MH_used : MethodName := ⟨"LatticeKeysModel$Hands", "used", "(II)I"⟩
abbrev w_MH_used : List Cond := Cond.code y_MH_used c_MH_used 4 (some .int) :: WG
theorem dMH_used_0 : decode c_MH_used 0 = .ok (.ldc 165, 2) := by decide +kernel
theorem dMH_used_2 : decode c_MH_used 2 = .ok (.iconst 2, 1) := by decide +kernel
theorem dMH_used_3 : decode c_MH_used 3 = .ok (.aload_n 0, 1) := by decide +kernel
theorem dMH_used_4 : decode c_MH_used 4 = .ok (.getfield 123, 3) := by decide +kernel
theorem dMH_used_7 : decode c_MH_used 7 = .ok (.imul, 1) := by decide +kernel
theorem dMH_used_8 : decode c_MH_used 8 = .ok (.idiv, 1) := by decide +kernel
theorem dMH_used_9 : decode c_MH_used 9 = .ok (.istore_n 3, 1) := by decide +kernel
theorem dMH_used_10 : decode c_MH_used 10 = .ok (.iload_n 1, 1) := by decide +kernel
theorem dMH_used_11 : decode c_MH_used 11 = .ok (.ifCond .ne 9, 3) := by decide +kernel
theorem dMH_used_14 : decode c_MH_used 14 = .ok (.aload_n 0, 1) := by decide +kernel
theorem dMH_used_15 : decode c_MH_used 15 = .ok (.iload_n 2, 1) := by decide +kernel
theorem dMH_used_16 : decode c_MH_used 16 = .ok (.invokevirtual 208, 3) := by decide +kernel
theorem dMH_used_19 : decode c_MH_used 19 = .ok (.ireturn, 1) := by decide +kernel
theorem dMH_used_20 : decode c_MH_used 20 = .ok (.aload_n 0, 1) := by decide +kernel
theorem dMH_used_21 : decode c_MH_used 21 = .ok (.iload_n 2, 1) := by decide +kernel
theorem dMH_used_22 : decode c_MH_used 22 = .ok (.invokevirtual 211, 3) := by decide +kernel
theorem dMH_used_25 : decode c_MH_used 25 = .ok (.ifCond .le 15, 3) := by decide +kernel
theorem dMH_used_28 : decode c_MH_used 28 = .ok (.aload_n 0, 1) := by decide +kernel
theorem dMH_used_29 : decode c_MH_used 29 = .ok (.iload_n 2, 1) := by decide +kernel
theorem dMH_used_30 : decode c_MH_used 30 = .ok (.invokevirtual 208, 3) := by decide +kernel
theorem dMH_used_33 : decode c_MH_used 33 = .ok (.iconst 1, 1) := by decide +kernel
theorem dMH_used_34 : decode c_MH_used 34 = .ok (.iadd, 1) := by decide +kernel
theorem dMH_used_35 : decode c_MH_used 35 = .ok (.iload_n 3, 1) := by decide +kernel
theorem dMH_used_36 : decode c_MH_used 36 = .ok (.irem, 1) := by decide +kernel
theorem dMH_used_37 : decode c_MH_used 37 = .ok (.goto 14, 3) := by decide +kernel
theorem dMH_used_40 : decode c_MH_used 40 = .ok (.aload_n 0, 1) := by decide +kernel
theorem dMH_used_41 : decode c_MH_used 41 = .ok (.iload_n 2, 1) := by decide +kernel
theorem dMH_used_42 : decode c_MH_used 42 = .ok (.invokevirtual 208, 3) := by decide +kernel
theorem dMH_used_45 : decode c_MH_used 45 = .ok (.iload_n 3, 1) := by decide +kernel
theorem dMH_used_46 : decode c_MH_used 46 = .ok (.iadd, 1) := by decide +kernel
theorem dMH_used_47 : decode c_MH_used 47 = .ok (.iconst 1, 1) := by decide +kernel
theorem dMH_used_48 : decode c_MH_used 48 = .ok (.isub, 1) := by decide +kernel
theorem dMH_used_49 : decode c_MH_used 49 = .ok (.iload_n 3, 1) := by decide +kernel
theorem dMH_used_50 : decode c_MH_used 50 = .ok (.irem, 1) := by decide +kernel
theorem dMH_used_51 : decode c_MH_used 51 = .ok (.ireturn, 1) := by decide +kernel
abbrev c_MH_rowBy : ByteArray := prog_13_method_9_code
abbrev y_MH_rowBy : MethodName := ⟨"LatticeKeysModel$Hands", "rowBy", "(I[I)V"⟩
abbrev w_MH_rowBy : List Cond := Cond.code y_MH_rowBy c_MH_rowBy 7 none :: WG
theorem dMH_rowBy_0 : decode c_MH_rowBy 0 = .ok (.iconst 0, 1) := by decide +kernel
theorem dMH_rowBy_1 : decode c_MH_rowBy 1 = .ok (.istore_n 3, 1) := by decide +kernel
theorem dMH_rowBy_2 : decode c_MH_rowBy 2 = .ok (.iload_n 3, 1) := by decide +kernel
theorem dMH_rowBy_3 : decode c_MH_rowBy 3 = .ok (.sipush 256, 3) := by decide +kernel
theorem dMH_rowBy_6 : decode c_MH_rowBy 6 = .ok (.if_icmp .ge 78, 3) := by decide +kernel
theorem dMH_rowBy_9 : decode c_MH_rowBy 9 = .ok (.lconst 0, 1) := by decide +kernel
theorem dMH_rowBy_10 : decode c_MH_rowBy 10 = .ok (.lstore 4, 2) := by decide +kernel
theorem dMH_rowBy_12 : decode c_MH_rowBy 12 = .ok (.iconst 0, 1) := by decide +kernel
theorem dMH_rowBy_13 : decode c_MH_rowBy 13 = .ok (.istore 6, 2) := by decide +kernel
theorem dMH_rowBy_15 : decode c_MH_rowBy 15 = .ok (.iload 6, 2) := by decide +kernel
theorem dMH_rowBy_17 : decode c_MH_rowBy 17 = .ok (.aload_n 0, 1) := by decide +kernel
theorem dMH_rowBy_18 : decode c_MH_rowBy 18 = .ok (.getfield 110, 3) := by decide +kernel
theorem dMH_rowBy_21 : decode c_MH_rowBy 21 = .ok (.if_icmp .ge 44, 3) := by decide +kernel
theorem dMH_rowBy_24 : decode c_MH_rowBy 24 = .ok (.lload 4, 2) := by decide +kernel
theorem dMH_rowBy_26 : decode c_MH_rowBy 26 = .ok (.aload_n 0, 1) := by decide +kernel
theorem dMH_rowBy_27 : decode c_MH_rowBy 27 = .ok (.getfield 21, 3) := by decide +kernel
theorem dMH_rowBy_30 : decode c_MH_rowBy 30 = .ok (.bipush 8, 2) := by decide +kernel
theorem dMH_rowBy_32 : decode c_MH_rowBy 32 = .ok (.iload_n 1, 1) := by decide +kernel
theorem dMH_rowBy_33 : decode c_MH_rowBy 33 = .ok (.imul, 1) := by decide +kernel
theorem dMH_rowBy_34 : decode c_MH_rowBy 34 = .ok (.iload 6, 2) := by decide +kernel
theorem dMH_rowBy_36 : decode c_MH_rowBy 36 = .ok (.iadd, 1) := by decide +kernel
theorem dMH_rowBy_37 : decode c_MH_rowBy 37 = .ok (.aaload, 1) := by decide +kernel
theorem dMH_rowBy_38 : decode c_MH_rowBy 38 = .ok (.iload_n 3, 1) := by decide +kernel
theorem dMH_rowBy_39 : decode c_MH_rowBy 39 = .ok (.iaload, 1) := by decide +kernel
theorem dMH_rowBy_40 : decode c_MH_rowBy 40 = .ok (.i2l, 1) := by decide +kernel
theorem dMH_rowBy_41 : decode c_MH_rowBy 41 = .ok (.aload_n 0, 1) := by decide +kernel
theorem dMH_rowBy_42 : decode c_MH_rowBy 42 = .ok (.getfield 42, 3) := by decide +kernel
theorem dMH_rowBy_45 : decode c_MH_rowBy 45 = .ok (.iload 6, 2) := by decide +kernel
theorem dMH_rowBy_47 : decode c_MH_rowBy 47 = .ok (.aaload, 1) := by decide +kernel
theorem dMH_rowBy_48 : decode c_MH_rowBy 48 = .ok (.iload_n 3, 1) := by decide +kernel
theorem dMH_rowBy_49 : decode c_MH_rowBy 49 = .ok (.iaload, 1) := by decide +kernel
theorem dMH_rowBy_50 : decode c_MH_rowBy 50 = .ok (.i2l, 1) := by decide +kernel
theorem dMH_rowBy_51 : decode c_MH_rowBy 51 = .ok (.lmul, 1) := by decide +kernel
theorem dMH_rowBy_52 : decode c_MH_rowBy 52 = .ok (.ldc2_w 159, 3) := by decide +kernel
theorem dMH_rowBy_55 : decode c_MH_rowBy 55 = .ok (.lrem, 1) := by decide +kernel
theorem dMH_rowBy_56 : decode c_MH_rowBy 56 = .ok (.ladd, 1) := by decide +kernel
theorem dMH_rowBy_57 : decode c_MH_rowBy 57 = .ok (.lstore 4, 2) := by decide +kernel
theorem dMH_rowBy_59 : decode c_MH_rowBy 59 = .ok (.iinc 6 1, 3) := by decide +kernel
theorem dMH_rowBy_62 : decode c_MH_rowBy 62 = .ok (.goto (-47), 3) := by decide +kernel
theorem dMH_rowBy_65 : decode c_MH_rowBy 65 = .ok (.aload_n 0, 1) := by decide +kernel
theorem dMH_rowBy_66 : decode c_MH_rowBy 66 = .ok (.getfield 58, 3) := by decide +kernel
theorem dMH_rowBy_69 : decode c_MH_rowBy 69 = .ok (.iload_n 3, 1) := by decide +kernel
theorem dMH_rowBy_70 : decode c_MH_rowBy 70 = .ok (.lload 4, 2) := by decide +kernel
theorem dMH_rowBy_72 : decode c_MH_rowBy 72 = .ok (.ldc2_w 159, 3) := by decide +kernel
theorem dMH_rowBy_75 : decode c_MH_rowBy 75 = .ok (.lrem, 1) := by decide +kernel
theorem dMH_rowBy_76 : decode c_MH_rowBy 76 = .ok (.l2i, 1) := by decide +kernel
theorem dMH_rowBy_77 : decode c_MH_rowBy 77 = .ok (.iastore, 1) := by decide +kernel
theorem dMH_rowBy_78 : decode c_MH_rowBy 78 = .ok (.iinc 3 1, 3) := by decide +kernel
theorem dMH_rowBy_81 : decode c_MH_rowBy 81 = .ok (.goto (-79), 3) := by decide +kernel
theorem dMH_rowBy_84 : decode c_MH_rowBy 84 = .ok (.aload_n 0, 1) := by decide +kernel
theorem dMH_rowBy_85 : decode c_MH_rowBy 85 = .ok (.getfield 15, 3) := by decide +kernel
theorem dMH_rowBy_88 : decode c_MH_rowBy 88 = .ok (.aload_n 0, 1) := by decide +kernel
theorem dMH_rowBy_89 : decode c_MH_rowBy 89 = .ok (.getfield 58, 3) := by decide +kernel
theorem dMH_rowBy_92 : decode c_MH_rowBy 92 = .ok (.aload_n 2, 1) := by decide +kernel
theorem dMH_rowBy_93 : decode c_MH_rowBy 93 = .ok (.iconst 1, 1) := by decide +kernel
theorem dMH_rowBy_94 : decode c_MH_rowBy 94 = .ok (.iconst 0, 1) := by decide +kernel
theorem dMH_rowBy_95 : decode c_MH_rowBy 95 = .ok (.invokevirtual 161, 3) := by decide +kernel
theorem dMH_rowBy_98 : decode c_MH_rowBy 98 = .ok (.return_, 1) := by decide +kernel
abbrev c_MH_turned : ByteArray := prog_13_method_10_code
abbrev y_MH_turned : MethodName := ⟨"LatticeKeysModel$Hands", "turned", "([I[I)V"⟩
abbrev w_MH_turned : List Cond := Cond.code y_MH_turned c_MH_turned 8 none :: WG
theorem dMH_turned_0 : decode c_MH_turned 0 = .ok (.iconst 0, 1) := by decide +kernel
theorem dMH_turned_1 : decode c_MH_turned 1 = .ok (.istore_n 3, 1) := by decide +kernel
theorem dMH_turned_2 : decode c_MH_turned 2 = .ok (.iload_n 3, 1) := by decide +kernel
theorem dMH_turned_3 : decode c_MH_turned 3 = .ok (.sipush 256, 3) := by decide +kernel
theorem dMH_turned_6 : decode c_MH_turned 6 = .ok (.if_icmp .ge 16, 3) := by decide +kernel
theorem dMH_turned_9 : decode c_MH_turned 9 = .ok (.aload_n 0, 1) := by decide +kernel
theorem dMH_turned_10 : decode c_MH_turned 10 = .ok (.getfield 61, 3) := by decide +kernel
theorem dMH_turned_13 : decode c_MH_turned 13 = .ok (.iload_n 3, 1) := by decide +kernel
theorem dMH_turned_14 : decode c_MH_turned 14 = .ok (.lconst 0, 1) := by decide +kernel
theorem dMH_turned_15 : decode c_MH_turned 15 = .ok (.lastore, 1) := by decide +kernel
theorem dMH_turned_16 : decode c_MH_turned 16 = .ok (.iinc 3 1, 3) := by decide +kernel
theorem dMH_turned_19 : decode c_MH_turned 19 = .ok (.goto (-17), 3) := by decide +kernel
theorem dMH_turned_22 : decode c_MH_turned 22 = .ok (.iconst 0, 1) := by decide +kernel
theorem dMH_turned_23 : decode c_MH_turned 23 = .ok (.istore_n 3, 1) := by decide +kernel
theorem dMH_turned_24 : decode c_MH_turned 24 = .ok (.iload_n 3, 1) := by decide +kernel
theorem dMH_turned_25 : decode c_MH_turned 25 = .ok (.sipush 256, 3) := by decide +kernel
theorem dMH_turned_28 : decode c_MH_turned 28 = .ok (.if_icmp .ge 98, 3) := by decide +kernel
theorem dMH_turned_31 : decode c_MH_turned 31 = .ok (.aload_n 0, 1) := by decide +kernel
theorem dMH_turned_32 : decode c_MH_turned 32 = .ok (.getfield 51, 3) := by decide +kernel
theorem dMH_turned_35 : decode c_MH_turned 35 = .ok (.iload_n 3, 1) := by decide +kernel
theorem dMH_turned_36 : decode c_MH_turned 36 = .ok (.iaload, 1) := by decide +kernel
theorem dMH_turned_37 : decode c_MH_turned 37 = .ok (.ifCond .ne 6, 3) := by decide +kernel
theorem dMH_turned_40 : decode c_MH_turned 40 = .ok (.goto 80, 3) := by decide +kernel
theorem dMH_turned_43 : decode c_MH_turned 43 = .ok (.iconst 0, 1) := by decide +kernel
theorem dMH_turned_44 : decode c_MH_turned 44 = .ok (.istore 4, 2) := by decide +kernel
theorem dMH_turned_46 : decode c_MH_turned 46 = .ok (.iload 4, 2) := by decide +kernel
theorem dMH_turned_48 : decode c_MH_turned 48 = .ok (.sipush 256, 3) := by decide +kernel
theorem dMH_turned_51 : decode c_MH_turned 51 = .ok (.if_icmp .ge 69, 3) := by decide +kernel
theorem dMH_turned_54 : decode c_MH_turned 54 = .ok (.iload_n 3, 1) := by decide +kernel
theorem dMH_turned_55 : decode c_MH_turned 55 = .ok (.iload 4, 2) := by decide +kernel
theorem dMH_turned_57 : decode c_MH_turned 57 = .ok (.iadd, 1) := by decide +kernel
theorem dMH_turned_58 : decode c_MH_turned 58 = .ok (.istore 5, 2) := by decide +kernel
theorem dMH_turned_60 : decode c_MH_turned 60 = .ok (.aload_n 0, 1) := by decide +kernel
theorem dMH_turned_61 : decode c_MH_turned 61 = .ok (.getfield 51, 3) := by decide +kernel
theorem dMH_turned_64 : decode c_MH_turned 64 = .ok (.iload_n 3, 1) := by decide +kernel
theorem dMH_turned_65 : decode c_MH_turned 65 = .ok (.iaload, 1) := by decide +kernel
theorem dMH_turned_66 : decode c_MH_turned 66 = .ok (.i2l, 1) := by decide +kernel
theorem dMH_turned_67 : decode c_MH_turned 67 = .ok (.aload_n 1, 1) := by decide +kernel
theorem dMH_turned_68 : decode c_MH_turned 68 = .ok (.iload 4, 2) := by decide +kernel
theorem dMH_turned_70 : decode c_MH_turned 70 = .ok (.iaload, 1) := by decide +kernel
theorem dMH_turned_71 : decode c_MH_turned 71 = .ok (.i2l, 1) := by decide +kernel
theorem dMH_turned_72 : decode c_MH_turned 72 = .ok (.lmul, 1) := by decide +kernel
theorem dMH_turned_73 : decode c_MH_turned 73 = .ok (.lstore 6, 2) := by decide +kernel
theorem dMH_turned_75 : decode c_MH_turned 75 = .ok (.iload 5, 2) := by decide +kernel
theorem dMH_turned_77 : decode c_MH_turned 77 = .ok (.sipush 256, 3) := by decide +kernel
theorem dMH_turned_80 : decode c_MH_turned 80 = .ok (.if_icmp .ge 18, 3) := by decide +kernel
theorem dMH_turned_83 : decode c_MH_turned 83 = .ok (.aload_n 0, 1) := by decide +kernel
theorem dMH_turned_84 : decode c_MH_turned 84 = .ok (.getfield 61, 3) := by decide +kernel
theorem dMH_turned_87 : decode c_MH_turned 87 = .ok (.iload 5, 2) := by decide +kernel
theorem dMH_turned_89 : decode c_MH_turned 89 = .ok (.dup2, 1) := by decide +kernel
theorem dMH_turned_90 : decode c_MH_turned 90 = .ok (.laload, 1) := by decide +kernel
theorem dMH_turned_91 : decode c_MH_turned 91 = .ok (.lload 6, 2) := by decide +kernel
theorem dMH_turned_93 : decode c_MH_turned 93 = .ok (.ladd, 1) := by decide +kernel
theorem dMH_turned_94 : decode c_MH_turned 94 = .ok (.lastore, 1) := by decide +kernel
theorem dMH_turned_95 : decode c_MH_turned 95 = .ok (.goto 19, 3) := by decide +kernel
theorem dMH_turned_98 : decode c_MH_turned 98 = .ok (.aload_n 0, 1) := by decide +kernel
theorem dMH_turned_99 : decode c_MH_turned 99 = .ok (.getfield 61, 3) := by decide +kernel
theorem dMH_turned_102 : decode c_MH_turned 102 = .ok (.iload 5, 2) := by decide +kernel
theorem dMH_turned_104 : decode c_MH_turned 104 = .ok (.sipush 256, 3) := by decide +kernel
theorem dMH_turned_107 : decode c_MH_turned 107 = .ok (.isub, 1) := by decide +kernel
theorem dMH_turned_108 : decode c_MH_turned 108 = .ok (.dup2, 1) := by decide +kernel
theorem dMH_turned_109 : decode c_MH_turned 109 = .ok (.laload, 1) := by decide +kernel
theorem dMH_turned_110 : decode c_MH_turned 110 = .ok (.lload 6, 2) := by decide +kernel
theorem dMH_turned_112 : decode c_MH_turned 112 = .ok (.lsub, 1) := by decide +kernel
theorem dMH_turned_113 : decode c_MH_turned 113 = .ok (.lastore, 1) := by decide +kernel
theorem dMH_turned_114 : decode c_MH_turned 114 = .ok (.iinc 4 1, 3) := by decide +kernel
theorem dMH_turned_117 : decode c_MH_turned 117 = .ok (.goto (-71), 3) := by decide +kernel
theorem dMH_turned_120 : decode c_MH_turned 120 = .ok (.iinc 3 1, 3) := by decide +kernel
theorem dMH_turned_123 : decode c_MH_turned 123 = .ok (.goto (-99), 3) := by decide +kernel
theorem dMH_turned_126 : decode c_MH_turned 126 = .ok (.iconst 0, 1) := by decide +kernel
theorem dMH_turned_127 : decode c_MH_turned 127 = .ok (.istore_n 3, 1) := by decide +kernel
theorem dMH_turned_128 : decode c_MH_turned 128 = .ok (.iload_n 3, 1) := by decide +kernel
theorem dMH_turned_129 : decode c_MH_turned 129 = .ok (.sipush 256, 3) := by decide +kernel
theorem dMH_turned_132 : decode c_MH_turned 132 = .ok (.if_icmp .ge 43, 3) := by decide +kernel
theorem dMH_turned_135 : decode c_MH_turned 135 = .ok (.aload_n 0, 1) := by decide +kernel
theorem dMH_turned_136 : decode c_MH_turned 136 = .ok (.getfield 61, 3) := by decide +kernel
theorem dMH_turned_139 : decode c_MH_turned 139 = .ok (.iload_n 3, 1) := by decide +kernel
theorem dMH_turned_140 : decode c_MH_turned 140 = .ok (.laload, 1) := by decide +kernel
theorem dMH_turned_141 : decode c_MH_turned 141 = .ok (.ldc2_w 159, 3) := by decide +kernel
theorem dMH_turned_144 : decode c_MH_turned 144 = .ok (.lrem, 1) := by decide +kernel
theorem dMH_turned_145 : decode c_MH_turned 145 = .ok (.lstore 4, 2) := by decide +kernel
theorem dMH_turned_147 : decode c_MH_turned 147 = .ok (.aload_n 2, 1) := by decide +kernel
theorem dMH_turned_148 : decode c_MH_turned 148 = .ok (.iload_n 3, 1) := by decide +kernel
theorem dMH_turned_149 : decode c_MH_turned 149 = .ok (.lload 4, 2) := by decide +kernel
theorem dMH_turned_151 : decode c_MH_turned 151 = .ok (.lconst 0, 1) := by decide +kernel
theorem dMH_turned_152 : decode c_MH_turned 152 = .ok (.lcmp, 1) := by decide +kernel
theorem dMH_turned_153 : decode c_MH_turned 153 = .ok (.ifCond .ge 12, 3) := by decide +kernel
theorem dMH_turned_156 : decode c_MH_turned 156 = .ok (.lload 4, 2) := by decide +kernel
theorem dMH_turned_158 : decode c_MH_turned 158 = .ok (.ldc2_w 159, 3) := by decide +kernel
theorem dMH_turned_161 : decode c_MH_turned 161 = .ok (.ladd, 1) := by decide +kernel
theorem dMH_turned_162 : decode c_MH_turned 162 = .ok (.goto 5, 3) := by decide +kernel
theorem dMH_turned_165 : decode c_MH_turned 165 = .ok (.lload 4, 2) := by decide +kernel
theorem dMH_turned_167 : decode c_MH_turned 167 = .ok (.l2i, 1) := by decide +kernel
theorem dMH_turned_168 : decode c_MH_turned 168 = .ok (.iastore, 1) := by decide +kernel
theorem dMH_turned_169 : decode c_MH_turned 169 = .ok (.iinc 3 1, 3) := by decide +kernel
theorem dMH_turned_172 : decode c_MH_turned 172 = .ok (.goto (-44), 3) := by decide +kernel
theorem dMH_turned_175 : decode c_MH_turned 175 = .ok (.return_, 1) := by decide +kernel
set_option maxHeartbeats 400000 in
set_option maxRecDepth 100000 in
theorem t_MH_openSize_0 (l : Launch) (g : Gd) (sz : Nat) (T : Ty) (xs : List Nat) (pl : va_W) (hO : okx g T xs pl) (hU : uni T)  : Met l y_MH_openSize w_MH_openSize ({ frames := 0, cells := 0, slots := 0, locals := 0 } : Room) (va_Pc [.int (nI 0)] (pr (en g) g.1 vcl sz ([] ++ pl))) (va_Qi (fun (r : Int32) (u : va_W) => (r = nI 1312) ∧ okx g T xs u) (po g.1 vcl (va_A ([] ++ pl) sz) (fun (u : va_W) => [] ++ u)) (va_A ([] ++ pl) sz)) 0 0 (va_A ([] ++ pl) sz) := by
  refine mc_entry (cc := c_MH_openSize) (maxL := 1) (ret := (some .int)) (by decide) rfl (Nat.le_of_ble_eq_true rfl) ?_
  intro p e s m args below meth c ls F hr hlk hnm hsz hP hD hE hA hl
  obtain ⟨hx, hb, hml, hown, hts⟩ := id F
  have hK := hE.1
  generalize va_A ([] ++ pl) sz = A at hD hE hA ⊢
  have hS : va_S A s.heap s.heap [] := va_S.rf
  have hl : lv_has ls 1 [(0, .int (nI 0))] := hl
  refine lv_bipush (v := nI 32) hx hb dMH_openSize_0 (by decide) ?_
  refine lv_sipush (v := nI 320) hx hb dMH_openSize_2 (by decide) ?_
  refine va_gets hx hb (hE.2.1 23 _ rfl).1 hS hown (hts _ (wg_t kw_1706)) (fun _ h9 => h9) dMH_openSize_5 ?_
  refine lv_iload_n hx hb dMH_openSize_8 rfl (lv_at hl 0 rfl) ?_
  refine va_ti (v := .int (nI 4)) hx hb (hE.2.1 23 _ rfl).2 hS (vp_in_nI (by decide) (by decide)) (by decide +kernel) dMH_openSize_9 ?_
  refine mi_imul hx hb dMH_openSize_10 ?_
  refine mi_as (show nI (320 * 4) = nI 1280 from rfl) ?_
  refine mi_iadd hx hb dMH_openSize_11 ?_
  refine mi_as (show nI (32 + 1280) = nI 1312 from rfl) ?_
  exact mp_iret hx hb hr hlk hP hD hS pl ⟨rfl, hO⟩ [] rfl rfl rfl (by omega) (by omega) dMH_openSize_12
set_option maxHeartbeats 400000 in
set_option maxRecDepth 100000 in
theorem t_MH_openSize_1 (l : Launch) (g : Gd) (sz : Nat) (T : Ty) (xs : List Nat) (pl : va_W) (hO : okx g T xs pl) (hU : uni T)  : Met l y_MH_openSize w_MH_openSize ({ frames := 0, cells := 0, slots := 0, locals := 0 } : Room) (va_Pc [.int (nI 1)] (pr (en g) g.1 vcl sz ([] ++ pl))) (va_Qi (fun (r : Int32) (u : va_W) => (r = nI 1952) ∧ okx g T xs u) (po g.1 vcl (va_A ([] ++ pl) sz) (fun (u : va_W) => [] ++ u)) (va_A ([] ++ pl) sz)) 0 0 (va_A ([] ++ pl) sz) := by
  refine mc_entry (cc := c_MH_openSize) (maxL := 1) (ret := (some .int)) (by decide) rfl (Nat.le_of_ble_eq_true rfl) ?_
  intro p e s m args below meth c ls F hr hlk hnm hsz hP hD hE hA hl
  obtain ⟨hx, hb, hml, hown, hts⟩ := id F
  have hK := hE.1
  generalize va_A ([] ++ pl) sz = A at hD hE hA ⊢
  have hS : va_S A s.heap s.heap [] := va_S.rf
  have hl : lv_has ls 1 [(0, .int (nI 1))] := hl
  refine lv_bipush (v := nI 32) hx hb dMH_openSize_0 (by decide) ?_
  refine lv_sipush (v := nI 320) hx hb dMH_openSize_2 (by decide) ?_
  refine va_gets hx hb (hE.2.1 23 _ rfl).1 hS hown (hts _ (wg_t kw_1706)) (fun _ h9 => h9) dMH_openSize_5 ?_
  refine lv_iload_n hx hb dMH_openSize_8 rfl (lv_at hl 0 rfl) ?_
  refine va_ti (v := .int (nI 6)) hx hb (hE.2.1 23 _ rfl).2 hS (vp_in_nI (by decide) (by decide)) (by decide +kernel) dMH_openSize_9 ?_
  refine mi_imul hx hb dMH_openSize_10 ?_
  refine mi_as (show nI (320 * 6) = nI 1920 from rfl) ?_
  refine mi_iadd hx hb dMH_openSize_11 ?_
  refine mi_as (show nI (32 + 1920) = nI 1952 from rfl) ?_
  exact mp_iret hx hb hr hlk hP hD hS pl ⟨rfl, hO⟩ [] rfl rfl rfl (by omega) (by omega) dMH_openSize_12
set_option maxHeartbeats 400000 in
set_option maxRecDepth 100000 in
theorem t_MH_openSize_2 (l : Launch) (g : Gd) (sz : Nat) (T : Ty) (xs : List Nat) (pl : va_W) (hO : okx g T xs pl) (hU : uni T)  : Met l y_MH_openSize w_MH_openSize ({ frames := 0, cells := 0, slots := 0, locals := 0 } : Room) (va_Pc [.int (nI 2)] (pr (en g) g.1 vcl sz ([] ++ pl))) (va_Qi (fun (r : Int32) (u : va_W) => (r = nI 2592) ∧ okx g T xs u) (po g.1 vcl (va_A ([] ++ pl) sz) (fun (u : va_W) => [] ++ u)) (va_A ([] ++ pl) sz)) 0 0 (va_A ([] ++ pl) sz) := by
  refine mc_entry (cc := c_MH_openSize) (maxL := 1) (ret := (some .int)) (by decide) rfl (Nat.le_of_ble_eq_true rfl) ?_
  intro p e s m args below meth c ls F hr hlk hnm hsz hP hD hE hA hl
  obtain ⟨hx, hb, hml, hown, hts⟩ := id F
  have hK := hE.1
  generalize va_A ([] ++ pl) sz = A at hD hE hA ⊢
  have hS : va_S A s.heap s.heap [] := va_S.rf
  have hl : lv_has ls 1 [(0, .int (nI 2))] := hl
  refine lv_bipush (v := nI 32) hx hb dMH_openSize_0 (by decide) ?_
  refine lv_sipush (v := nI 320) hx hb dMH_openSize_2 (by decide) ?_
  refine va_gets hx hb (hE.2.1 23 _ rfl).1 hS hown (hts _ (wg_t kw_1706)) (fun _ h9 => h9) dMH_openSize_5 ?_
  refine lv_iload_n hx hb dMH_openSize_8 rfl (lv_at hl 0 rfl) ?_
  refine va_ti (v := .int (nI 8)) hx hb (hE.2.1 23 _ rfl).2 hS (vp_in_nI (by decide) (by decide)) (by decide +kernel) dMH_openSize_9 ?_
  refine mi_imul hx hb dMH_openSize_10 ?_
  refine mi_as (show nI (320 * 8) = nI 2560 from rfl) ?_
  refine mi_iadd hx hb dMH_openSize_11 ?_
  refine mi_as (show nI (32 + 2560) = nI 2592 from rfl) ?_
  exact mp_iret hx hb hr hlk hP hD hS pl ⟨rfl, hO⟩ [] rfl rfl rfl (by omega) (by omega) dMH_openSize_12
set_option maxHeartbeats 400000 in
set_option maxRecDepth 100000 in
theorem t_MH_hiddenSize_0 (l : Launch) (g : Gd) (sz : Nat) (T : Ty) (xs : List Nat) (pl : va_W) (hO : okx g T xs pl) (hU : uni T)  : Met l y_MH_hiddenSize w_MH_hiddenSize ({ frames := 0, cells := 0, slots := 0, locals := 0 } : Room) (va_Pc [.int (nI 0)] (pr (en g) g.1 vcl sz ([] ++ pl))) (va_Qi (fun (r : Int32) (u : va_W) => (r = nI 2560) ∧ okx g T xs u) (po g.1 vcl (va_A ([] ++ pl) sz) (fun (u : va_W) => [] ++ u)) (va_A ([] ++ pl) sz)) 0 0 (va_A ([] ++ pl) sz) := by
  refine mc_entry (cc := c_MH_hiddenSize) (maxL := 1) (ret := (some .int)) (by decide) rfl (Nat.le_of_ble_eq_true rfl) ?_
  intro p e s m args below meth c ls F hr hlk hnm hsz hP hD hE hA hl
  obtain ⟨hx, hb, hml, hown, hts⟩ := id F
  have hK := hE.1
  generalize va_A ([] ++ pl) sz = A at hD hE hA ⊢
  have hS : va_S A s.heap s.heap [] := va_S.rf
  have hl : lv_has ls 1 [(0, .int (nI 0))] := hl
  refine lv_sipush (v := nI 128) hx hb dMH_hiddenSize_0 (by decide) ?_
  refine lv_bipush (v := nI 32) hx hb dMH_hiddenSize_3 (by decide) ?_
  refine va_gets hx hb (hE.2.1 25 _ rfl).1 hS hown (hts _ (wg_t kw_1710)) (fun _ h9 => h9) dMH_hiddenSize_5 ?_
  refine lv_iload_n hx hb dMH_hiddenSize_8 rfl (lv_at hl 0 rfl) ?_
  refine va_ti (v := .int (nI 2)) hx hb (hE.2.1 25 _ rfl).2 hS (vp_in_nI (by decide) (by decide)) (by decide +kernel) dMH_hiddenSize_9 ?_
  refine lv_iconst (v := nI 2) hx hb dMH_hiddenSize_10 (by decide) ?_
  refine mi_ne (tgt := 18) hx hb dMH_hiddenSize_11 (by decide) (by omega) (by omega) (fun h21 => absurd h21 (by omega)) (fun h21 => ?_)
  refine lv_iconst (v := nI 3) hx hb dMH_hiddenSize_14 (by decide) ?_
  refine lv_goto (tgt := 19) hx hb dMH_hiddenSize_15 (by decide) ?_
  refine mi_imul hx hb dMH_hiddenSize_19 ?_
  refine mi_as (show nI (32 * 3) = nI 96 from rfl) ?_
  refine va_gets hx hb (hE.2.1 23 _ rfl).1 hS hown (hts _ (wg_t kw_1706)) (fun _ h9 => h9) dMH_hiddenSize_20 ?_
  refine lv_iload_n hx hb dMH_hiddenSize_23 rfl (lv_at hl 0 rfl) ?_
  refine va_ti (v := .int (nI 4)) hx hb (hE.2.1 23 _ rfl).2 hS (vp_in_nI (by decide) (by decide)) (by decide +kernel) dMH_hiddenSize_24 ?_
  refine va_gets hx hb (hE.2.1 24 _ rfl).1 hS hown (hts _ (wg_t kw_1708)) (fun _ h9 => h9) dMH_hiddenSize_25 ?_
  refine lv_iload_n hx hb dMH_hiddenSize_28 rfl (lv_at hl 0 rfl) ?_
  refine va_ti (v := .int (nI 4)) hx hb (hE.2.1 24 _ rfl).2 hS (vp_in_nI (by decide) (by decide)) (by decide +kernel) dMH_hiddenSize_29 ?_
  refine mi_iadd hx hb dMH_hiddenSize_30 ?_
  refine mi_as (show nI (4 + 4) = nI 8 from rfl) ?_
  refine mi_imul hx hb dMH_hiddenSize_31 ?_
  refine mi_as (show nI (96 * 8) = nI 768 from rfl) ?_
  refine mi_iadd hx hb dMH_hiddenSize_32 ?_
  refine mi_as (show nI (128 + 768) = nI 896 from rfl) ?_
  refine lv_sipush (v := nI 416) hx hb dMH_hiddenSize_33 (by decide) ?_
  refine va_gets hx hb (hE.2.1 23 _ rfl).1 hS hown (hts _ (wg_t kw_1706)) (fun _ h9 => h9) dMH_hiddenSize_36 ?_
  refine lv_iload_n hx hb dMH_hiddenSize_39 rfl (lv_at hl 0 rfl) ?_
  refine va_ti (v := .int (nI 4)) hx hb (hE.2.1 23 _ rfl).2 hS (vp_in_nI (by decide) (by decide)) (by decide +kernel) dMH_hiddenSize_40 ?_
  refine mi_imul hx hb dMH_hiddenSize_41 ?_
  refine mi_as (show nI (416 * 4) = nI 1664 from rfl) ?_
  refine mi_iadd hx hb dMH_hiddenSize_42 ?_
  refine mi_as (show nI (896 + 1664) = nI 2560 from rfl) ?_
  exact mp_iret hx hb hr hlk hP hD hS pl ⟨rfl, hO⟩ [] rfl rfl rfl (by omega) (by omega) dMH_hiddenSize_43
set_option maxHeartbeats 400000 in
set_option maxRecDepth 100000 in
theorem t_MH_hiddenSize_1 (l : Launch) (g : Gd) (sz : Nat) (T : Ty) (xs : List Nat) (pl : va_W) (hO : okx g T xs pl) (hU : uni T)  : Met l y_MH_hiddenSize w_MH_hiddenSize ({ frames := 0, cells := 0, slots := 0, locals := 0 } : Room) (va_Pc [.int (nI 1)] (pr (en g) g.1 vcl sz ([] ++ pl))) (va_Qi (fun (r : Int32) (u : va_W) => (r = nI 4032) ∧ okx g T xs u) (po g.1 vcl (va_A ([] ++ pl) sz) (fun (u : va_W) => [] ++ u)) (va_A ([] ++ pl) sz)) 0 0 (va_A ([] ++ pl) sz) := by
  refine mc_entry (cc := c_MH_hiddenSize) (maxL := 1) (ret := (some .int)) (by decide) rfl (Nat.le_of_ble_eq_true rfl) ?_
  intro p e s m args below meth c ls F hr hlk hnm hsz hP hD hE hA hl
  obtain ⟨hx, hb, hml, hown, hts⟩ := id F
  have hK := hE.1
  generalize va_A ([] ++ pl) sz = A at hD hE hA ⊢
  have hS : va_S A s.heap s.heap [] := va_S.rf
  have hl : lv_has ls 1 [(0, .int (nI 1))] := hl
  refine lv_sipush (v := nI 128) hx hb dMH_hiddenSize_0 (by decide) ?_
  refine lv_bipush (v := nI 32) hx hb dMH_hiddenSize_3 (by decide) ?_
  refine va_gets hx hb (hE.2.1 25 _ rfl).1 hS hown (hts _ (wg_t kw_1710)) (fun _ h9 => h9) dMH_hiddenSize_5 ?_
  refine lv_iload_n hx hb dMH_hiddenSize_8 rfl (lv_at hl 0 rfl) ?_
  refine va_ti (v := .int (nI 4)) hx hb (hE.2.1 25 _ rfl).2 hS (vp_in_nI (by decide) (by decide)) (by decide +kernel) dMH_hiddenSize_9 ?_
  refine lv_iconst (v := nI 2) hx hb dMH_hiddenSize_10 (by decide) ?_
  refine mi_ne (tgt := 18) hx hb dMH_hiddenSize_11 (by decide) (by omega) (by omega) (fun h21 => ?_) (fun h21 => absurd h21 (by omega))
  refine lv_iconst (v := nI 4) hx hb dMH_hiddenSize_18 (by decide) ?_
  refine mi_imul hx hb dMH_hiddenSize_19 ?_
  refine mi_as (show nI (32 * 4) = nI 128 from rfl) ?_
  refine va_gets hx hb (hE.2.1 23 _ rfl).1 hS hown (hts _ (wg_t kw_1706)) (fun _ h9 => h9) dMH_hiddenSize_20 ?_
  refine lv_iload_n hx hb dMH_hiddenSize_23 rfl (lv_at hl 0 rfl) ?_
  refine va_ti (v := .int (nI 6)) hx hb (hE.2.1 23 _ rfl).2 hS (vp_in_nI (by decide) (by decide)) (by decide +kernel) dMH_hiddenSize_24 ?_
  refine va_gets hx hb (hE.2.1 24 _ rfl).1 hS hown (hts _ (wg_t kw_1708)) (fun _ h9 => h9) dMH_hiddenSize_25 ?_
  refine lv_iload_n hx hb dMH_hiddenSize_28 rfl (lv_at hl 0 rfl) ?_
  refine va_ti (v := .int (nI 5)) hx hb (hE.2.1 24 _ rfl).2 hS (vp_in_nI (by decide) (by decide)) (by decide +kernel) dMH_hiddenSize_29 ?_
  refine mi_iadd hx hb dMH_hiddenSize_30 ?_
  refine mi_as (show nI (6 + 5) = nI 11 from rfl) ?_
  refine mi_imul hx hb dMH_hiddenSize_31 ?_
  refine mi_as (show nI (128 * 11) = nI 1408 from rfl) ?_
  refine mi_iadd hx hb dMH_hiddenSize_32 ?_
  refine mi_as (show nI (128 + 1408) = nI 1536 from rfl) ?_
  refine lv_sipush (v := nI 416) hx hb dMH_hiddenSize_33 (by decide) ?_
  refine va_gets hx hb (hE.2.1 23 _ rfl).1 hS hown (hts _ (wg_t kw_1706)) (fun _ h9 => h9) dMH_hiddenSize_36 ?_
  refine lv_iload_n hx hb dMH_hiddenSize_39 rfl (lv_at hl 0 rfl) ?_
  refine va_ti (v := .int (nI 6)) hx hb (hE.2.1 23 _ rfl).2 hS (vp_in_nI (by decide) (by decide)) (by decide +kernel) dMH_hiddenSize_40 ?_
  refine mi_imul hx hb dMH_hiddenSize_41 ?_
  refine mi_as (show nI (416 * 6) = nI 2496 from rfl) ?_
  refine mi_iadd hx hb dMH_hiddenSize_42 ?_
  refine mi_as (show nI (1536 + 2496) = nI 4032 from rfl) ?_
  exact mp_iret hx hb hr hlk hP hD hS pl ⟨rfl, hO⟩ [] rfl rfl rfl (by omega) (by omega) dMH_hiddenSize_43
set_option maxHeartbeats 400000 in
set_option maxRecDepth 100000 in
theorem t_MH_hiddenSize_2 (l : Launch) (g : Gd) (sz : Nat) (T : Ty) (xs : List Nat) (pl : va_W) (hO : okx g T xs pl) (hU : uni T)  : Met l y_MH_hiddenSize w_MH_hiddenSize ({ frames := 0, cells := 0, slots := 0, locals := 0 } : Room) (va_Pc [.int (nI 2)] (pr (en g) g.1 vcl sz ([] ++ pl))) (va_Qi (fun (r : Int32) (u : va_W) => (r = nI 4896) ∧ okx g T xs u) (po g.1 vcl (va_A ([] ++ pl) sz) (fun (u : va_W) => [] ++ u)) (va_A ([] ++ pl) sz)) 0 0 (va_A ([] ++ pl) sz) := by
  refine mc_entry (cc := c_MH_hiddenSize) (maxL := 1) (ret := (some .int)) (by decide) rfl (Nat.le_of_ble_eq_true rfl) ?_
  intro p e s m args below meth c ls F hr hlk hnm hsz hP hD hE hA hl
  obtain ⟨hx, hb, hml, hown, hts⟩ := id F
  have hK := hE.1
  generalize va_A ([] ++ pl) sz = A at hD hE hA ⊢
  have hS : va_S A s.heap s.heap [] := va_S.rf
  have hl : lv_has ls 1 [(0, .int (nI 2))] := hl
  refine lv_sipush (v := nI 128) hx hb dMH_hiddenSize_0 (by decide) ?_
  refine lv_bipush (v := nI 32) hx hb dMH_hiddenSize_3 (by decide) ?_
  refine va_gets hx hb (hE.2.1 25 _ rfl).1 hS hown (hts _ (wg_t kw_1710)) (fun _ h9 => h9) dMH_hiddenSize_5 ?_
  refine lv_iload_n hx hb dMH_hiddenSize_8 rfl (lv_at hl 0 rfl) ?_
  refine va_ti (v := .int (nI 2)) hx hb (hE.2.1 25 _ rfl).2 hS (vp_in_nI (by decide) (by decide)) (by decide +kernel) dMH_hiddenSize_9 ?_
  refine lv_iconst (v := nI 2) hx hb dMH_hiddenSize_10 (by decide) ?_
  refine mi_ne (tgt := 18) hx hb dMH_hiddenSize_11 (by decide) (by omega) (by omega) (fun h21 => absurd h21 (by omega)) (fun h21 => ?_)
  refine lv_iconst (v := nI 3) hx hb dMH_hiddenSize_14 (by decide) ?_
  refine lv_goto (tgt := 19) hx hb dMH_hiddenSize_15 (by decide) ?_
  refine mi_imul hx hb dMH_hiddenSize_19 ?_
  refine mi_as (show nI (32 * 3) = nI 96 from rfl) ?_
  refine va_gets hx hb (hE.2.1 23 _ rfl).1 hS hown (hts _ (wg_t kw_1706)) (fun _ h9 => h9) dMH_hiddenSize_20 ?_
  refine lv_iload_n hx hb dMH_hiddenSize_23 rfl (lv_at hl 0 rfl) ?_
  refine va_ti (v := .int (nI 8)) hx hb (hE.2.1 23 _ rfl).2 hS (vp_in_nI (by decide) (by decide)) (by decide +kernel) dMH_hiddenSize_24 ?_
  refine va_gets hx hb (hE.2.1 24 _ rfl).1 hS hown (hts _ (wg_t kw_1708)) (fun _ h9 => h9) dMH_hiddenSize_25 ?_
  refine lv_iload_n hx hb dMH_hiddenSize_28 rfl (lv_at hl 0 rfl) ?_
  refine va_ti (v := .int (nI 7)) hx hb (hE.2.1 24 _ rfl).2 hS (vp_in_nI (by decide) (by decide)) (by decide +kernel) dMH_hiddenSize_29 ?_
  refine mi_iadd hx hb dMH_hiddenSize_30 ?_
  refine mi_as (show nI (8 + 7) = nI 15 from rfl) ?_
  refine mi_imul hx hb dMH_hiddenSize_31 ?_
  refine mi_as (show nI (96 * 15) = nI 1440 from rfl) ?_
  refine mi_iadd hx hb dMH_hiddenSize_32 ?_
  refine mi_as (show nI (128 + 1440) = nI 1568 from rfl) ?_
  refine lv_sipush (v := nI 416) hx hb dMH_hiddenSize_33 (by decide) ?_
  refine va_gets hx hb (hE.2.1 23 _ rfl).1 hS hown (hts _ (wg_t kw_1706)) (fun _ h9 => h9) dMH_hiddenSize_36 ?_
  refine lv_iload_n hx hb dMH_hiddenSize_39 rfl (lv_at hl 0 rfl) ?_
  refine va_ti (v := .int (nI 8)) hx hb (hE.2.1 23 _ rfl).2 hS (vp_in_nI (by decide) (by decide)) (by decide +kernel) dMH_hiddenSize_40 ?_
  refine mi_imul hx hb dMH_hiddenSize_41 ?_
  refine mi_as (show nI (416 * 8) = nI 3328 from rfl) ?_
  refine mi_iadd hx hb dMH_hiddenSize_42 ?_
  refine mi_as (show nI (1568 + 3328) = nI 4896 from rfl) ?_
  exact mp_iret hx hb hr hlk hP hD hS pl ⟨rfl, hO⟩ [] rfl rfl rfl (by omega) (by omega) dMH_hiddenSize_43
set_option maxHeartbeats 400000 in
set_option maxRecDepth 100000 in
theorem t_MH_markSize_0 (l : Launch) (g : Gd) (sz : Nat) (T : Ty) (xs : List Nat) (pl : va_W) (hO : okx g T xs pl) (hU : uni T)  : Met l y_MH_markSize w_MH_markSize ({ frames := 0, cells := 0, slots := 0, locals := 0 } : Room) (va_Pc [.int (nI 0)] (pr (en g) g.1 vcl sz ([] ++ pl))) (va_Qi (fun (r : Int32) (u : va_W) => (r = nI 2420) ∧ okx g T xs u) (po g.1 vcl (va_A ([] ++ pl) sz) (fun (u : va_W) => [] ++ u)) (va_A ([] ++ pl) sz)) 0 0 (va_A ([] ++ pl) sz) := by
  refine mc_entry (cc := c_MH_markSize) (maxL := 1) (ret := (some .int)) (by decide) rfl (Nat.le_of_ble_eq_true rfl) ?_
  intro p e s m args below meth c ls F hr hlk hnm hsz hP hD hE hA hl
  obtain ⟨hx, hb, hml, hown, hts⟩ := id F
  have hK := hE.1
  generalize va_A ([] ++ pl) sz = A at hD hE hA ⊢
  have hS : va_S A s.heap s.heap [] := va_S.rf
  have hl : lv_has ls 1 [(0, .int (nI 0))] := hl
  refine lv_bipush (v := nI 32) hx hb dMH_markSize_0 (by decide) ?_
  refine lv_bipush (v := nI 16) hx hb dMH_markSize_2 (by decide) ?_
  refine lv_iload_n hx hb dMH_markSize_4 rfl (lv_at hl 0 rfl) ?_
  refine mi_imul hx hb dMH_markSize_5 ?_
  refine mi_as (show nI (16 * 0) = nI 0 from rfl) ?_
  refine mi_iadd hx hb dMH_markSize_6 ?_
  refine mi_as (show nI (32 + 0) = nI 32 from rfl) ?_
  refine lv_bipush (v := nI 32) hx hb dMH_markSize_7 (by decide) ?_
  refine lv_iload_n hx hb dMH_markSize_9 rfl (lv_at hl 0 rfl) ?_
  refine lv_if_ne (tgt := 18) hx hb dMH_markSize_10 (by decide) (fun h21 => absurd h21 (by decide)) (fun h21 => ?_)
  refine lv_bipush (v := nI 18) hx hb dMH_markSize_13 (by decide) ?_
  refine lv_goto (tgt := 20) hx hb dMH_markSize_15 (by decide) ?_
  refine mi_imul hx hb dMH_markSize_20 ?_
  refine mi_as (show nI (32 * 18) = nI 576 from rfl) ?_
  refine va_gets hx hb (hE.2.1 24 _ rfl).1 hS hown (hts _ (wg_t kw_1708)) (fun _ h9 => h9) dMH_markSize_21 ?_
  refine lv_iload_n hx hb dMH_markSize_24 rfl (lv_at hl 0 rfl) ?_
  refine va_ti (v := .int (nI 4)) hx hb (hE.2.1 24 _ rfl).2 hS (vp_in_nI (by decide) (by decide)) (by decide +kernel) dMH_markSize_25 ?_
  refine mi_imul hx hb dMH_markSize_26 ?_
  refine mi_as (show nI (576 * 4) = nI 2304 from rfl) ?_
  refine mi_iadd hx hb dMH_markSize_27 ?_
  refine mi_as (show nI (32 + 2304) = nI 2336 from rfl) ?_
  refine va_gets hx hb (hE.2.1 27 _ rfl).1 hS hown (hts _ (wg_t kw_1912)) (fun _ h9 => h9) dMH_markSize_28 ?_
  refine lv_iload_n hx hb dMH_markSize_31 rfl (lv_at hl 0 rfl) ?_
  refine va_ti (v := .int (nI 80)) hx hb (hE.2.1 27 _ rfl).2 hS (vp_in_nI (by decide) (by decide)) (by decide +kernel) dMH_markSize_32 ?_
  refine mi_iadd hx hb dMH_markSize_33 ?_
  refine mi_as (show nI (2336 + 80) = nI 2416 from rfl) ?_
  refine va_gets hx hb (hE.2.1 23 _ rfl).1 hS hown (hts _ (wg_t kw_1706)) (fun _ h9 => h9) dMH_markSize_34 ?_
  refine lv_iload_n hx hb dMH_markSize_37 rfl (lv_at hl 0 rfl) ?_
  refine va_ti (v := .int (nI 4)) hx hb (hE.2.1 23 _ rfl).2 hS (vp_in_nI (by decide) (by decide)) (by decide +kernel) dMH_markSize_38 ?_
  refine mi_iadd hx hb dMH_markSize_39 ?_
  refine mi_as (show nI (2416 + 4) = nI 2420 from rfl) ?_
  exact mp_iret hx hb hr hlk hP hD hS pl ⟨rfl, hO⟩ [] rfl rfl rfl (by omega) (by omega) dMH_markSize_40
set_option maxHeartbeats 400000 in
set_option maxRecDepth 100000 in
theorem t_MH_markSize_1 (l : Launch) (g : Gd) (sz : Nat) (T : Ty) (xs : List Nat) (pl : va_W) (hO : okx g T xs pl) (hU : uni T)  : Met l y_MH_markSize w_MH_markSize ({ frames := 0, cells := 0, slots := 0, locals := 0 } : Room) (va_Pc [.int (nI 1)] (pr (en g) g.1 vcl sz ([] ++ pl))) (va_Qi (fun (r : Int32) (u : va_W) => (r = nI 3309) ∧ okx g T xs u) (po g.1 vcl (va_A ([] ++ pl) sz) (fun (u : va_W) => [] ++ u)) (va_A ([] ++ pl) sz)) 0 0 (va_A ([] ++ pl) sz) := by
  refine mc_entry (cc := c_MH_markSize) (maxL := 1) (ret := (some .int)) (by decide) rfl (Nat.le_of_ble_eq_true rfl) ?_
  intro p e s m args below meth c ls F hr hlk hnm hsz hP hD hE hA hl
  obtain ⟨hx, hb, hml, hown, hts⟩ := id F
  have hK := hE.1
  generalize va_A ([] ++ pl) sz = A at hD hE hA ⊢
  have hS : va_S A s.heap s.heap [] := va_S.rf
  have hl : lv_has ls 1 [(0, .int (nI 1))] := hl
  refine lv_bipush (v := nI 32) hx hb dMH_markSize_0 (by decide) ?_
  refine lv_bipush (v := nI 16) hx hb dMH_markSize_2 (by decide) ?_
  refine lv_iload_n hx hb dMH_markSize_4 rfl (lv_at hl 0 rfl) ?_
  refine mi_imul hx hb dMH_markSize_5 ?_
  refine mi_as (show nI (16 * 1) = nI 16 from rfl) ?_
  refine mi_iadd hx hb dMH_markSize_6 ?_
  refine mi_as (show nI (32 + 16) = nI 48 from rfl) ?_
  refine lv_bipush (v := nI 32) hx hb dMH_markSize_7 (by decide) ?_
  refine lv_iload_n hx hb dMH_markSize_9 rfl (lv_at hl 0 rfl) ?_
  refine lv_if_ne (tgt := 18) hx hb dMH_markSize_10 (by decide) (fun h21 => ?_) (fun h21 => absurd h21 (by decide))
  refine lv_bipush (v := nI 20) hx hb dMH_markSize_18 (by decide) ?_
  refine mi_imul hx hb dMH_markSize_20 ?_
  refine mi_as (show nI (32 * 20) = nI 640 from rfl) ?_
  refine va_gets hx hb (hE.2.1 24 _ rfl).1 hS hown (hts _ (wg_t kw_1708)) (fun _ h9 => h9) dMH_markSize_21 ?_
  refine lv_iload_n hx hb dMH_markSize_24 rfl (lv_at hl 0 rfl) ?_
  refine va_ti (v := .int (nI 5)) hx hb (hE.2.1 24 _ rfl).2 hS (vp_in_nI (by decide) (by decide)) (by decide +kernel) dMH_markSize_25 ?_
  refine mi_imul hx hb dMH_markSize_26 ?_
  refine mi_as (show nI (640 * 5) = nI 3200 from rfl) ?_
  refine mi_iadd hx hb dMH_markSize_27 ?_
  refine mi_as (show nI (48 + 3200) = nI 3248 from rfl) ?_
  refine va_gets hx hb (hE.2.1 27 _ rfl).1 hS hown (hts _ (wg_t kw_1912)) (fun _ h9 => h9) dMH_markSize_28 ?_
  refine lv_iload_n hx hb dMH_markSize_31 rfl (lv_at hl 0 rfl) ?_
  refine va_ti (v := .int (nI 55)) hx hb (hE.2.1 27 _ rfl).2 hS (vp_in_nI (by decide) (by decide)) (by decide +kernel) dMH_markSize_32 ?_
  refine mi_iadd hx hb dMH_markSize_33 ?_
  refine mi_as (show nI (3248 + 55) = nI 3303 from rfl) ?_
  refine va_gets hx hb (hE.2.1 23 _ rfl).1 hS hown (hts _ (wg_t kw_1706)) (fun _ h9 => h9) dMH_markSize_34 ?_
  refine lv_iload_n hx hb dMH_markSize_37 rfl (lv_at hl 0 rfl) ?_
  refine va_ti (v := .int (nI 6)) hx hb (hE.2.1 23 _ rfl).2 hS (vp_in_nI (by decide) (by decide)) (by decide +kernel) dMH_markSize_38 ?_
  refine mi_iadd hx hb dMH_markSize_39 ?_
  refine mi_as (show nI (3303 + 6) = nI 3309 from rfl) ?_
  exact mp_iret hx hb hr hlk hP hD hS pl ⟨rfl, hO⟩ [] rfl rfl rfl (by omega) (by omega) dMH_markSize_40
set_option maxHeartbeats 400000 in
set_option maxRecDepth 100000 in
theorem t_MH_markSize_2 (l : Launch) (g : Gd) (sz : Nat) (T : Ty) (xs : List Nat) (pl : va_W) (hO : okx g T xs pl) (hU : uni T)  : Met l y_MH_markSize w_MH_markSize ({ frames := 0, cells := 0, slots := 0, locals := 0 } : Room) (va_Pc [.int (nI 2)] (pr (en g) g.1 vcl sz ([] ++ pl))) (va_Qi (fun (r : Int32) (u : va_W) => (r = nI 4627) ∧ okx g T xs u) (po g.1 vcl (va_A ([] ++ pl) sz) (fun (u : va_W) => [] ++ u)) (va_A ([] ++ pl) sz)) 0 0 (va_A ([] ++ pl) sz) := by
  refine mc_entry (cc := c_MH_markSize) (maxL := 1) (ret := (some .int)) (by decide) rfl (Nat.le_of_ble_eq_true rfl) ?_
  intro p e s m args below meth c ls F hr hlk hnm hsz hP hD hE hA hl
  obtain ⟨hx, hb, hml, hown, hts⟩ := id F
  have hK := hE.1
  generalize va_A ([] ++ pl) sz = A at hD hE hA ⊢
  have hS : va_S A s.heap s.heap [] := va_S.rf
  have hl : lv_has ls 1 [(0, .int (nI 2))] := hl
  refine lv_bipush (v := nI 32) hx hb dMH_markSize_0 (by decide) ?_
  refine lv_bipush (v := nI 16) hx hb dMH_markSize_2 (by decide) ?_
  refine lv_iload_n hx hb dMH_markSize_4 rfl (lv_at hl 0 rfl) ?_
  refine mi_imul hx hb dMH_markSize_5 ?_
  refine mi_as (show nI (16 * 2) = nI 32 from rfl) ?_
  refine mi_iadd hx hb dMH_markSize_6 ?_
  refine mi_as (show nI (32 + 32) = nI 64 from rfl) ?_
  refine lv_bipush (v := nI 32) hx hb dMH_markSize_7 (by decide) ?_
  refine lv_iload_n hx hb dMH_markSize_9 rfl (lv_at hl 0 rfl) ?_
  refine lv_if_ne (tgt := 18) hx hb dMH_markSize_10 (by decide) (fun h21 => ?_) (fun h21 => absurd h21 (by decide))
  refine lv_bipush (v := nI 20) hx hb dMH_markSize_18 (by decide) ?_
  refine mi_imul hx hb dMH_markSize_20 ?_
  refine mi_as (show nI (32 * 20) = nI 640 from rfl) ?_
  refine va_gets hx hb (hE.2.1 24 _ rfl).1 hS hown (hts _ (wg_t kw_1708)) (fun _ h9 => h9) dMH_markSize_21 ?_
  refine lv_iload_n hx hb dMH_markSize_24 rfl (lv_at hl 0 rfl) ?_
  refine va_ti (v := .int (nI 7)) hx hb (hE.2.1 24 _ rfl).2 hS (vp_in_nI (by decide) (by decide)) (by decide +kernel) dMH_markSize_25 ?_
  refine mi_imul hx hb dMH_markSize_26 ?_
  refine mi_as (show nI (640 * 7) = nI 4480 from rfl) ?_
  refine mi_iadd hx hb dMH_markSize_27 ?_
  refine mi_as (show nI (64 + 4480) = nI 4544 from rfl) ?_
  refine va_gets hx hb (hE.2.1 27 _ rfl).1 hS hown (hts _ (wg_t kw_1912)) (fun _ h9 => h9) dMH_markSize_28 ?_
  refine lv_iload_n hx hb dMH_markSize_31 rfl (lv_at hl 0 rfl) ?_
  refine va_ti (v := .int (nI 75)) hx hb (hE.2.1 27 _ rfl).2 hS (vp_in_nI (by decide) (by decide)) (by decide +kernel) dMH_markSize_32 ?_
  refine mi_iadd hx hb dMH_markSize_33 ?_
  refine mi_as (show nI (4544 + 75) = nI 4619 from rfl) ?_
  refine va_gets hx hb (hE.2.1 23 _ rfl).1 hS hown (hts _ (wg_t kw_1706)) (fun _ h9 => h9) dMH_markSize_34 ?_
  refine lv_iload_n hx hb dMH_markSize_37 rfl (lv_at hl 0 rfl) ?_
  refine va_ti (v := .int (nI 8)) hx hb (hE.2.1 23 _ rfl).2 hS (vp_in_nI (by decide) (by decide)) (by decide +kernel) dMH_markSize_38 ?_
  refine mi_iadd hx hb dMH_markSize_39 ?_
  refine mi_as (show nI (4619 + 8) = nI 4627 from rfl) ?_
  exact mp_iret hx hb hr hlk hP hD hS pl ⟨rfl, hO⟩ [] rfl rfl rfl (by omega) (by omega) dMH_markSize_40
set_option maxHeartbeats 400000 in
set_option maxRecDepth 100000 in
theorem t_MH_norm (l : Launch) (g : Gd) (sz : Nat) (T : Ty) (xs : List Nat) (pl : va_W) (hO : okx g T xs pl) (hU : uni T) (v : Int32)  : Met l y_MH_norm w_MH_norm ({ frames := 0, cells := 0, slots := 0, locals := 0 } : Room) (va_Pc [.int v] (pr (en g) g.1 vcl sz ([] ++ pl))) (va_Qi (fun (r : Int32) (u : va_W) => (True) ∧ okx g T xs u) (po g.1 vcl (va_A ([] ++ pl) sz) (fun (u : va_W) => [] ++ u)) (va_A ([] ++ pl) sz)) 0 0 (va_A ([] ++ pl) sz) := by
  refine mc_entry (cc := c_MH_norm) (maxL := 1) (ret := (some .int)) (by decide) rfl (Nat.le_of_ble_eq_true rfl) ?_
  intro p e s m args below meth c ls F hr hlk hnm hsz hP hD hE hA hl
  obtain ⟨hx, hb, hml, hown, hts⟩ := id F
  have hK := hE.1
  generalize va_A ([] ++ pl) sz = A at hD hE hA ⊢
  have hS : va_S A s.heap s.heap [] := va_S.rf
  have hl : lv_has ls 1 [(0, .int v)] := hl
  refine lv_iload_n hx hb dMH_norm_0 rfl (lv_at hl 0 rfl) ?_
  refine lv_ldc (v := 4190208) hx hb hown (hts _ (wg_t kw_1908)) dMH_norm_1 ?_
  refine mi_as (show (4190208 : Int32) = nI 4190208 by decide) ?_
  refine lv_icmp_le (tgt := 13) hx hb dMH_norm_3 (by decide) (fun h21 => ?_) (fun h21 => ?_)
  · refine lv_iload_n hx hb dMH_norm_13 rfl (lv_at hl 0 rfl) ?_
    exact mp_iret hx hb hr hlk hP hD hS pl ⟨trivial, hO⟩ [] rfl rfl rfl (by omega) (by omega) dMH_norm_14
  · refine lv_ldc (v := 8380417) hx hb hown (hts _ (wg_t kw_1429)) dMH_norm_6 ?_
    refine mi_as (show (8380417 : Int32) = nI 8380417 by decide) ?_
    refine lv_iload_n hx hb dMH_norm_8 rfl (lv_at hl 0 rfl) ?_
    refine lv_isub hx hb dMH_norm_9 ?_
    refine mi_any (fun z21 => ?_)
    refine lv_goto (tgt := 14) hx hb dMH_norm_10 (by decide) ?_
    exact mp_iret hx hb hr hlk hP hD hS pl ⟨trivial, hO⟩ [] rfl rfl rfl (by omega) (by omega) dMH_norm_14
set_option maxHeartbeats 400000 in
set_option maxRecDepth 100000 in
theorem t_MH_minus (l : Launch) (g : Gd) (sz : Nat) (T : Ty) (xs : List Nat) (pl : va_W) (hO : okx g T xs pl) (hU : uni T) (v : Int32) (v2 : Int32)  : Met l y_MH_minus w_MH_minus ({ frames := 0, cells := 0, slots := 0, locals := 0 } : Room) (va_Pc [.int v, .int v2] (pr (en g) g.1 vcl sz ([] ++ pl))) (va_Qi (fun (r : Int32) (u : va_W) => (True) ∧ okx g T xs u) (po g.1 vcl (va_A ([] ++ pl) sz) (fun (u : va_W) => [] ++ u)) (va_A ([] ++ pl) sz)) 0 0 (va_A ([] ++ pl) sz) := by
  refine mc_entry (cc := c_MH_minus) (maxL := 2) (ret := (some .int)) (by decide) rfl (Nat.le_of_ble_eq_true rfl) ?_
  intro p e s m args below meth c ls F hr hlk hnm hsz hP hD hE hA hl
  obtain ⟨hx, hb, hml, hown, hts⟩ := id F
  have hK := hE.1
  generalize va_A ([] ++ pl) sz = A at hD hE hA ⊢
  have hS : va_S A s.heap s.heap [] := va_S.rf
  have hl : lv_has ls 2 [(0, .int v), (1, .int v2)] := hl
  refine lv_iload_n hx hb dMH_minus_0 rfl (lv_at hl 0 rfl) ?_
  refine lv_iload_n hx hb dMH_minus_1 rfl (lv_at hl 1 rfl) ?_
  refine lv_icmp_ge (tgt := 14) hx hb dMH_minus_2 (by decide) (fun h21 => ?_) (fun h21 => ?_)
  · refine lv_iload_n hx hb dMH_minus_14 rfl (lv_at hl 0 rfl) ?_
    refine lv_iload_n hx hb dMH_minus_15 rfl (lv_at hl 1 rfl) ?_
    refine lv_isub hx hb dMH_minus_16 ?_
    refine mi_any (fun z21 => ?_)
    exact mp_iret hx hb hr hlk hP hD hS pl ⟨trivial, hO⟩ [] rfl rfl rfl (by omega) (by omega) dMH_minus_17
  · refine lv_iload_n hx hb dMH_minus_5 rfl (lv_at hl 0 rfl) ?_
    refine lv_iload_n hx hb dMH_minus_6 rfl (lv_at hl 1 rfl) ?_
    refine lv_isub hx hb dMH_minus_7 ?_
    refine mi_any (fun z22 => ?_)
    refine lv_ldc (v := 8380417) hx hb hown (hts _ (wg_t kw_1429)) dMH_minus_8 ?_
    refine mi_as (show (8380417 : Int32) = nI 8380417 by decide) ?_
    refine lv_iadd hx hb dMH_minus_10 ?_
    refine mi_any (fun z23 => ?_)
    refine lv_goto (tgt := 17) hx hb dMH_minus_11 (by decide) ?_
    exact mp_iret hx hb hr hlk hP hD hS pl ⟨trivial, hO⟩ [] rfl rfl rfl (by omega) (by omega) dMH_minus_17
set_option maxHeartbeats 400000 in
set_option maxRecDepth 100000 in
theorem t_MH_low_0 (l : Launch) (g : Gd) (sz : Nat) (T : Ty) (xs : List Nat) (pl : va_W) (hO : okx g T xs pl) (hU : uni T) (hc0 : clo T xs 0) (h0 : Nat) (v : Int32) (k_h0 : T h0 = some (46, 0))  : Met l y_MH_low w_MH_low ({ frames := 0, cells := 0, slots := 0, locals := 0 } : Room) (va_Pc [.ref h0, .int v] (pr (en g) g.1 vcl sz ([] ++ pl))) (va_Qi (fun (r : Int32) (u : va_W) => (True) ∧ okx g T xs u) (po g.1 vcl (va_A ([] ++ pl) sz) (fun (u : va_W) => [] ++ u)) (va_A ([] ++ pl) sz)) 0 0 (va_A ([] ++ pl) sz) := by
  refine mc_entry (cc := c_MH_low) (maxL := 3) (ret := (some .int)) (by decide) rfl (Nat.le_of_ble_eq_true rfl) ?_
  intro p e s m args below meth c ls F hr hlk hnm hsz hP hD hE hA hl
  obtain ⟨hx, hb, hml, hown, hts⟩ := id F
  have hK := hE.1
  generalize va_A ([] ++ pl) sz = A at hD hE hA ⊢
  have hS : va_S A s.heap s.heap [] := va_S.rf
  have hl : lv_has ls 3 [(0, .ref h0), (1, .int v)] := hl
  refine lv_iload_n hx hb dMH_low_0 rfl (lv_at hl 1 rfl) ?_
  refine lv_iconst (v := nI 2) hx hb dMH_low_1 (by decide) ?_
  refine lv_aload_n hx hb dMH_low_2 rfl (lv_at hl 0 rfl) ?_
  refine ty_get (ci := 12) (C := "LatticeKeysModel$Hands") (TT := T_MH) (N := 31) (kd := (46, 0)) hx hb hts (wg_ft i_MH) hown hK hO k_h0 (nxg hc0 k_h0 rfl) hP (fun _ h9 => h9) rfl 28 (by decide) (hts _ (wg_t kw_1460)) (fun _ h9 => h9) (cd := (1, 0, 95232)) rfl dMH_low_3 (fun v21 hv21 => ?_)
  obtain rfl := (show v21 = .int (nI 95232) from hv21)
  refine mi_imul hx hb dMH_low_6 ?_
  refine mi_as (show nI (2 * 95232) = nI 190464 from rfl) ?_
  refine lv_irem hx hb dMH_low_7 (nI_ne0 (by omega) (by omega)) ?_
  refine mi_any (fun z21 => ?_)
  refine lv_istore_n (lv' := [(2, .int z21), (0, .ref h0), (1, .int v)]) hx hb dMH_low_8 rfl hl (by decide) rfl (fun ls hl => ?_)
  refine lv_iload_n hx hb dMH_low_9 rfl (lv_at hl 0 rfl) ?_
  refine lv_aload_n hx hb dMH_low_10 rfl (lv_at hl 1 rfl) ?_
  refine ty_get (ci := 12) (C := "LatticeKeysModel$Hands") (TT := T_MH) (N := 31) (kd := (46, 0)) hx hb hts (wg_ft i_MH) hown hK hO k_h0 (nxg hc0 k_h0 rfl) hP (fun _ h9 => h9) rfl 28 (by decide) (hts _ (wg_t kw_1460)) (fun _ h9 => h9) (cd := (1, 0, 95232)) rfl dMH_low_11 (fun v22 hv22 => ?_)
  obtain rfl := (show v22 = .int (nI 95232) from hv22)
  refine lv_icmp_le (tgt := 26) hx hb dMH_low_14 (by decide) (fun h21 => ?_) (fun h21 => ?_)
  · refine lv_iload_n hx hb dMH_low_26 rfl (lv_at hl 2 rfl) ?_
    refine lv_iload_n hx hb dMH_low_27 rfl (lv_at hl 0 rfl) ?_
    refine lv_isub hx hb dMH_low_28 ?_
    refine mi_any (fun z22 => ?_)
    refine lv_ldc (v := 8380416) hx hb hown (hts _ (wg_t kw_1884)) dMH_low_29 ?_
    refine mi_as (show (8380416 : Int32) = nI 8380416 by decide) ?_
    refine lv_icmp_ne (tgt := 40) hx hb dMH_low_31 (by decide) (fun h22 => ?_) (fun h22 => ?_)
    · refine lv_iload_n hx hb dMH_low_40 rfl (lv_at hl 0 rfl) ?_
      exact mp_iret hx hb hr hlk hP hD hS pl ⟨trivial, hO⟩ [] rfl rfl rfl (by omega) (by omega) dMH_low_41
    · refine lv_iload_n hx hb dMH_low_34 rfl (lv_at hl 0 rfl) ?_
      refine lv_iconst (v := nI 1) hx hb dMH_low_35 (by decide) ?_
      refine lv_isub hx hb dMH_low_36 ?_
      refine mi_any (fun z23 => ?_)
      refine lv_goto (tgt := 41) hx hb dMH_low_37 (by decide) ?_
      exact mp_iret hx hb hr hlk hP hD hS pl ⟨trivial, hO⟩ [] rfl rfl rfl (by omega) (by omega) dMH_low_41
  · refine lv_iload_n hx hb dMH_low_17 rfl (lv_at hl 0 rfl) ?_
    refine lv_iconst (v := nI 2) hx hb dMH_low_18 (by decide) ?_
    refine lv_aload_n hx hb dMH_low_19 rfl (lv_at hl 1 rfl) ?_
    refine ty_get (ci := 12) (C := "LatticeKeysModel$Hands") (TT := T_MH) (N := 31) (kd := (46, 0)) hx hb hts (wg_ft i_MH) hown hK hO k_h0 (nxg hc0 k_h0 rfl) hP (fun _ h9 => h9) rfl 28 (by decide) (hts _ (wg_t kw_1460)) (fun _ h9 => h9) (cd := (1, 0, 95232)) rfl dMH_low_20 (fun v23 hv23 => ?_)
    obtain rfl := (show v23 = .int (nI 95232) from hv23)
    refine mi_imul hx hb dMH_low_23 ?_
    refine mi_as (show nI (2 * 95232) = nI 190464 from rfl) ?_
    refine lv_isub hx hb dMH_low_24 ?_
    refine mi_any (fun z24 => ?_)
    refine lv_istore_n (lv' := [(2, .int z24), (0, .ref h0), (1, .int v)]) hx hb dMH_low_25 rfl hl (by decide) rfl (fun ls hl => ?_)
    refine lv_iload_n hx hb dMH_low_26 rfl (lv_at hl 2 rfl) ?_
    refine lv_iload_n hx hb dMH_low_27 rfl (lv_at hl 0 rfl) ?_
    refine lv_isub hx hb dMH_low_28 ?_
    refine mi_any (fun z25 => ?_)
    refine lv_ldc (v := 8380416) hx hb hown (hts _ (wg_t kw_1884)) dMH_low_29 ?_
    refine mi_as (show (8380416 : Int32) = nI 8380416 by decide) ?_
    refine lv_icmp_ne (tgt := 40) hx hb dMH_low_31 (by decide) (fun h23 => ?_) (fun h23 => ?_)
    · refine lv_iload_n hx hb dMH_low_40 rfl (lv_at hl 0 rfl) ?_
      exact mp_iret hx hb hr hlk hP hD hS pl ⟨trivial, hO⟩ [] rfl rfl rfl (by omega) (by omega) dMH_low_41
    · refine lv_iload_n hx hb dMH_low_34 rfl (lv_at hl 0 rfl) ?_
      refine lv_iconst (v := nI 1) hx hb dMH_low_35 (by decide) ?_
      refine lv_isub hx hb dMH_low_36 ?_
      refine mi_any (fun z26 => ?_)
      refine lv_goto (tgt := 41) hx hb dMH_low_37 (by decide) ?_
      exact mp_iret hx hb hr hlk hP hD hS pl ⟨trivial, hO⟩ [] rfl rfl rfl (by omega) (by omega) dMH_low_41
set_option maxHeartbeats 400000 in
set_option maxRecDepth 100000 in
theorem t_MH_low_1 (l : Launch) (g : Gd) (sz : Nat) (T : Ty) (xs : List Nat) (pl : va_W) (hO : okx g T xs pl) (hU : uni T) (hc0 : clo T xs 0) (h0 : Nat) (v : Int32) (k_h0 : T h0 = some (47, 0))  : Met l y_MH_low w_MH_low ({ frames := 0, cells := 0, slots := 0, locals := 0 } : Room) (va_Pc [.ref h0, .int v] (pr (en g) g.1 vcl sz ([] ++ pl))) (va_Qi (fun (r : Int32) (u : va_W) => (True) ∧ okx g T xs u) (po g.1 vcl (va_A ([] ++ pl) sz) (fun (u : va_W) => [] ++ u)) (va_A ([] ++ pl) sz)) 0 0 (va_A ([] ++ pl) sz) := by
  refine mc_entry (cc := c_MH_low) (maxL := 3) (ret := (some .int)) (by decide) rfl (Nat.le_of_ble_eq_true rfl) ?_
  intro p e s m args below meth c ls F hr hlk hnm hsz hP hD hE hA hl
  obtain ⟨hx, hb, hml, hown, hts⟩ := id F
  have hK := hE.1
  generalize va_A ([] ++ pl) sz = A at hD hE hA ⊢
  have hS : va_S A s.heap s.heap [] := va_S.rf
  have hl : lv_has ls 3 [(0, .ref h0), (1, .int v)] := hl
  refine lv_iload_n hx hb dMH_low_0 rfl (lv_at hl 1 rfl) ?_
  refine lv_iconst (v := nI 2) hx hb dMH_low_1 (by decide) ?_
  refine lv_aload_n hx hb dMH_low_2 rfl (lv_at hl 0 rfl) ?_
  refine ty_get (ci := 12) (C := "LatticeKeysModel$Hands") (TT := T_MH) (N := 31) (kd := (47, 0)) hx hb hts (wg_ft i_MH) hown hK hO k_h0 (nxg hc0 k_h0 rfl) hP (fun _ h9 => h9) rfl 28 (by decide) (hts _ (wg_t kw_1460)) (fun _ h9 => h9) (cd := (1, 0, 261888)) rfl dMH_low_3 (fun v21 hv21 => ?_)
  obtain rfl := (show v21 = .int (nI 261888) from hv21)
  refine mi_imul hx hb dMH_low_6 ?_
  refine mi_as (show nI (2 * 261888) = nI 523776 from rfl) ?_
  refine lv_irem hx hb dMH_low_7 (nI_ne0 (by omega) (by omega)) ?_
  refine mi_any (fun z21 => ?_)
  refine lv_istore_n (lv' := [(2, .int z21), (0, .ref h0), (1, .int v)]) hx hb dMH_low_8 rfl hl (by decide) rfl (fun ls hl => ?_)
  refine lv_iload_n hx hb dMH_low_9 rfl (lv_at hl 0 rfl) ?_
  refine lv_aload_n hx hb dMH_low_10 rfl (lv_at hl 1 rfl) ?_
  refine ty_get (ci := 12) (C := "LatticeKeysModel$Hands") (TT := T_MH) (N := 31) (kd := (47, 0)) hx hb hts (wg_ft i_MH) hown hK hO k_h0 (nxg hc0 k_h0 rfl) hP (fun _ h9 => h9) rfl 28 (by decide) (hts _ (wg_t kw_1460)) (fun _ h9 => h9) (cd := (1, 0, 261888)) rfl dMH_low_11 (fun v22 hv22 => ?_)
  obtain rfl := (show v22 = .int (nI 261888) from hv22)
  refine lv_icmp_le (tgt := 26) hx hb dMH_low_14 (by decide) (fun h21 => ?_) (fun h21 => ?_)
  · refine lv_iload_n hx hb dMH_low_26 rfl (lv_at hl 2 rfl) ?_
    refine lv_iload_n hx hb dMH_low_27 rfl (lv_at hl 0 rfl) ?_
    refine lv_isub hx hb dMH_low_28 ?_
    refine mi_any (fun z22 => ?_)
    refine lv_ldc (v := 8380416) hx hb hown (hts _ (wg_t kw_1884)) dMH_low_29 ?_
    refine mi_as (show (8380416 : Int32) = nI 8380416 by decide) ?_
    refine lv_icmp_ne (tgt := 40) hx hb dMH_low_31 (by decide) (fun h22 => ?_) (fun h22 => ?_)
    · refine lv_iload_n hx hb dMH_low_40 rfl (lv_at hl 0 rfl) ?_
      exact mp_iret hx hb hr hlk hP hD hS pl ⟨trivial, hO⟩ [] rfl rfl rfl (by omega) (by omega) dMH_low_41
    · refine lv_iload_n hx hb dMH_low_34 rfl (lv_at hl 0 rfl) ?_
      refine lv_iconst (v := nI 1) hx hb dMH_low_35 (by decide) ?_
      refine lv_isub hx hb dMH_low_36 ?_
      refine mi_any (fun z23 => ?_)
      refine lv_goto (tgt := 41) hx hb dMH_low_37 (by decide) ?_
      exact mp_iret hx hb hr hlk hP hD hS pl ⟨trivial, hO⟩ [] rfl rfl rfl (by omega) (by omega) dMH_low_41
  · refine lv_iload_n hx hb dMH_low_17 rfl (lv_at hl 0 rfl) ?_
    refine lv_iconst (v := nI 2) hx hb dMH_low_18 (by decide) ?_
    refine lv_aload_n hx hb dMH_low_19 rfl (lv_at hl 1 rfl) ?_
    refine ty_get (ci := 12) (C := "LatticeKeysModel$Hands") (TT := T_MH) (N := 31) (kd := (47, 0)) hx hb hts (wg_ft i_MH) hown hK hO k_h0 (nxg hc0 k_h0 rfl) hP (fun _ h9 => h9) rfl 28 (by decide) (hts _ (wg_t kw_1460)) (fun _ h9 => h9) (cd := (1, 0, 261888)) rfl dMH_low_20 (fun v23 hv23 => ?_)
    obtain rfl := (show v23 = .int (nI 261888) from hv23)
    refine mi_imul hx hb dMH_low_23 ?_
    refine mi_as (show nI (2 * 261888) = nI 523776 from rfl) ?_
    refine lv_isub hx hb dMH_low_24 ?_
    refine mi_any (fun z24 => ?_)
    refine lv_istore_n (lv' := [(2, .int z24), (0, .ref h0), (1, .int v)]) hx hb dMH_low_25 rfl hl (by decide) rfl (fun ls hl => ?_)
    refine lv_iload_n hx hb dMH_low_26 rfl (lv_at hl 2 rfl) ?_
    refine lv_iload_n hx hb dMH_low_27 rfl (lv_at hl 0 rfl) ?_
    refine lv_isub hx hb dMH_low_28 ?_
    refine mi_any (fun z25 => ?_)
    refine lv_ldc (v := 8380416) hx hb hown (hts _ (wg_t kw_1884)) dMH_low_29 ?_
    refine mi_as (show (8380416 : Int32) = nI 8380416 by decide) ?_
    refine lv_icmp_ne (tgt := 40) hx hb dMH_low_31 (by decide) (fun h23 => ?_) (fun h23 => ?_)
    · refine lv_iload_n hx hb dMH_low_40 rfl (lv_at hl 0 rfl) ?_
      exact mp_iret hx hb hr hlk hP hD hS pl ⟨trivial, hO⟩ [] rfl rfl rfl (by omega) (by omega) dMH_low_41
    · refine lv_iload_n hx hb dMH_low_34 rfl (lv_at hl 0 rfl) ?_
      refine lv_iconst (v := nI 1) hx hb dMH_low_35 (by decide) ?_
      refine lv_isub hx hb dMH_low_36 ?_
      refine mi_any (fun z26 => ?_)
      refine lv_goto (tgt := 41) hx hb dMH_low_37 (by decide) ?_
      exact mp_iret hx hb hr hlk hP hD hS pl ⟨trivial, hO⟩ [] rfl rfl rfl (by omega) (by omega) dMH_low_41
set_option maxHeartbeats 400000 in
set_option maxRecDepth 100000 in
theorem t_MH_low_2 (l : Launch) (g : Gd) (sz : Nat) (T : Ty) (xs : List Nat) (pl : va_W) (hO : okx g T xs pl) (hU : uni T) (hc0 : clo T xs 0) (h0 : Nat) (v : Int32) (k_h0 : T h0 = some (48, 0))  : Met l y_MH_low w_MH_low ({ frames := 0, cells := 0, slots := 0, locals := 0 } : Room) (va_Pc [.ref h0, .int v] (pr (en g) g.1 vcl sz ([] ++ pl))) (va_Qi (fun (r : Int32) (u : va_W) => (True) ∧ okx g T xs u) (po g.1 vcl (va_A ([] ++ pl) sz) (fun (u : va_W) => [] ++ u)) (va_A ([] ++ pl) sz)) 0 0 (va_A ([] ++ pl) sz) := by
  refine mc_entry (cc := c_MH_low) (maxL := 3) (ret := (some .int)) (by decide) rfl (Nat.le_of_ble_eq_true rfl) ?_
  intro p e s m args below meth c ls F hr hlk hnm hsz hP hD hE hA hl
  obtain ⟨hx, hb, hml, hown, hts⟩ := id F
  have hK := hE.1
  generalize va_A ([] ++ pl) sz = A at hD hE hA ⊢
  have hS : va_S A s.heap s.heap [] := va_S.rf
  have hl : lv_has ls 3 [(0, .ref h0), (1, .int v)] := hl
  refine lv_iload_n hx hb dMH_low_0 rfl (lv_at hl 1 rfl) ?_
  refine lv_iconst (v := nI 2) hx hb dMH_low_1 (by decide) ?_
  refine lv_aload_n hx hb dMH_low_2 rfl (lv_at hl 0 rfl) ?_
  refine ty_get (ci := 12) (C := "LatticeKeysModel$Hands") (TT := T_MH) (N := 31) (kd := (48, 0)) hx hb hts (wg_ft i_MH) hown hK hO k_h0 (nxg hc0 k_h0 rfl) hP (fun _ h9 => h9) rfl 28 (by decide) (hts _ (wg_t kw_1460)) (fun _ h9 => h9) (cd := (1, 0, 261888)) rfl dMH_low_3 (fun v21 hv21 => ?_)
  obtain rfl := (show v21 = .int (nI 261888) from hv21)
  refine mi_imul hx hb dMH_low_6 ?_
  refine mi_as (show nI (2 * 261888) = nI 523776 from rfl) ?_
  refine lv_irem hx hb dMH_low_7 (nI_ne0 (by omega) (by omega)) ?_
  refine mi_any (fun z21 => ?_)
  refine lv_istore_n (lv' := [(2, .int z21), (0, .ref h0), (1, .int v)]) hx hb dMH_low_8 rfl hl (by decide) rfl (fun ls hl => ?_)
  refine lv_iload_n hx hb dMH_low_9 rfl (lv_at hl 0 rfl) ?_
  refine lv_aload_n hx hb dMH_low_10 rfl (lv_at hl 1 rfl) ?_
  refine ty_get (ci := 12) (C := "LatticeKeysModel$Hands") (TT := T_MH) (N := 31) (kd := (48, 0)) hx hb hts (wg_ft i_MH) hown hK hO k_h0 (nxg hc0 k_h0 rfl) hP (fun _ h9 => h9) rfl 28 (by decide) (hts _ (wg_t kw_1460)) (fun _ h9 => h9) (cd := (1, 0, 261888)) rfl dMH_low_11 (fun v22 hv22 => ?_)
  obtain rfl := (show v22 = .int (nI 261888) from hv22)
  refine lv_icmp_le (tgt := 26) hx hb dMH_low_14 (by decide) (fun h21 => ?_) (fun h21 => ?_)
  · refine lv_iload_n hx hb dMH_low_26 rfl (lv_at hl 2 rfl) ?_
    refine lv_iload_n hx hb dMH_low_27 rfl (lv_at hl 0 rfl) ?_
    refine lv_isub hx hb dMH_low_28 ?_
    refine mi_any (fun z22 => ?_)
    refine lv_ldc (v := 8380416) hx hb hown (hts _ (wg_t kw_1884)) dMH_low_29 ?_
    refine mi_as (show (8380416 : Int32) = nI 8380416 by decide) ?_
    refine lv_icmp_ne (tgt := 40) hx hb dMH_low_31 (by decide) (fun h22 => ?_) (fun h22 => ?_)
    · refine lv_iload_n hx hb dMH_low_40 rfl (lv_at hl 0 rfl) ?_
      exact mp_iret hx hb hr hlk hP hD hS pl ⟨trivial, hO⟩ [] rfl rfl rfl (by omega) (by omega) dMH_low_41
    · refine lv_iload_n hx hb dMH_low_34 rfl (lv_at hl 0 rfl) ?_
      refine lv_iconst (v := nI 1) hx hb dMH_low_35 (by decide) ?_
      refine lv_isub hx hb dMH_low_36 ?_
      refine mi_any (fun z23 => ?_)
      refine lv_goto (tgt := 41) hx hb dMH_low_37 (by decide) ?_
      exact mp_iret hx hb hr hlk hP hD hS pl ⟨trivial, hO⟩ [] rfl rfl rfl (by omega) (by omega) dMH_low_41
  · refine lv_iload_n hx hb dMH_low_17 rfl (lv_at hl 0 rfl) ?_
    refine lv_iconst (v := nI 2) hx hb dMH_low_18 (by decide) ?_
    refine lv_aload_n hx hb dMH_low_19 rfl (lv_at hl 1 rfl) ?_
    refine ty_get (ci := 12) (C := "LatticeKeysModel$Hands") (TT := T_MH) (N := 31) (kd := (48, 0)) hx hb hts (wg_ft i_MH) hown hK hO k_h0 (nxg hc0 k_h0 rfl) hP (fun _ h9 => h9) rfl 28 (by decide) (hts _ (wg_t kw_1460)) (fun _ h9 => h9) (cd := (1, 0, 261888)) rfl dMH_low_20 (fun v23 hv23 => ?_)
    obtain rfl := (show v23 = .int (nI 261888) from hv23)
    refine mi_imul hx hb dMH_low_23 ?_
    refine mi_as (show nI (2 * 261888) = nI 523776 from rfl) ?_
    refine lv_isub hx hb dMH_low_24 ?_
    refine mi_any (fun z24 => ?_)
    refine lv_istore_n (lv' := [(2, .int z24), (0, .ref h0), (1, .int v)]) hx hb dMH_low_25 rfl hl (by decide) rfl (fun ls hl => ?_)
    refine lv_iload_n hx hb dMH_low_26 rfl (lv_at hl 2 rfl) ?_
    refine lv_iload_n hx hb dMH_low_27 rfl (lv_at hl 0 rfl) ?_
    refine lv_isub hx hb dMH_low_28 ?_
    refine mi_any (fun z25 => ?_)
    refine lv_ldc (v := 8380416) hx hb hown (hts _ (wg_t kw_1884)) dMH_low_29 ?_
    refine mi_as (show (8380416 : Int32) = nI 8380416 by decide) ?_
    refine lv_icmp_ne (tgt := 40) hx hb dMH_low_31 (by decide) (fun h23 => ?_) (fun h23 => ?_)
    · refine lv_iload_n hx hb dMH_low_40 rfl (lv_at hl 0 rfl) ?_
      exact mp_iret hx hb hr hlk hP hD hS pl ⟨trivial, hO⟩ [] rfl rfl rfl (by omega) (by omega) dMH_low_41
    · refine lv_iload_n hx hb dMH_low_34 rfl (lv_at hl 0 rfl) ?_
      refine lv_iconst (v := nI 1) hx hb dMH_low_35 (by decide) ?_
      refine lv_isub hx hb dMH_low_36 ?_
      refine mi_any (fun z26 => ?_)
      refine lv_goto (tgt := 41) hx hb dMH_low_37 (by decide) ?_
      exact mp_iret hx hb hr hlk hP hD hS pl ⟨trivial, hO⟩ [] rfl rfl rfl (by omega) (by omega) dMH_low_41
set_option maxHeartbeats 400000 in
set_option maxRecDepth 100000 in
theorem t_MH_high_0 (l : Launch) (g : Gd) (sz : Nat) (T : Ty) (xs : List Nat) (pl : va_W) (hO : okx g T xs pl) (hU : uni T) (hc0 : clo T xs 0) (h0 : Nat) (v : Int32) (k_h0 : T h0 = some (46, 0))  : Met l y_MH_high w_MH_high ({ frames := 0, cells := 0, slots := 0, locals := 0 } : Room) (va_Pc [.ref h0, .int v] (pr (en g) g.1 vcl sz ([] ++ pl))) (va_Qi (fun (r : Int32) (u : va_W) => (True) ∧ okx g T xs u) (po g.1 vcl (va_A ([] ++ pl) sz) (fun (u : va_W) => [] ++ u)) (va_A ([] ++ pl) sz)) 0 0 (va_A ([] ++ pl) sz) := by
  refine mc_entry (cc := c_MH_high) (maxL := 3) (ret := (some .int)) (by decide) rfl (Nat.le_of_ble_eq_true rfl) ?_
  intro p e s m args below meth c ls F hr hlk hnm hsz hP hD hE hA hl
  obtain ⟨hx, hb, hml, hown, hts⟩ := id F
  have hK := hE.1
  generalize va_A ([] ++ pl) sz = A at hD hE hA ⊢
  have hS : va_S A s.heap s.heap [] := va_S.rf
  have hl : lv_has ls 3 [(0, .ref h0), (1, .int v)] := hl
  refine lv_iload_n hx hb dMH_high_0 rfl (lv_at hl 1 rfl) ?_
  refine lv_iconst (v := nI 2) hx hb dMH_high_1 (by decide) ?_
  refine lv_aload_n hx hb dMH_high_2 rfl (lv_at hl 0 rfl) ?_
  refine ty_get (ci := 12) (C := "LatticeKeysModel$Hands") (TT := T_MH) (N := 31) (kd := (46, 0)) hx hb hts (wg_ft i_MH) hown hK hO k_h0 (nxg hc0 k_h0 rfl) hP (fun _ h9 => h9) rfl 28 (by decide) (hts _ (wg_t kw_1460)) (fun _ h9 => h9) (cd := (1, 0, 95232)) rfl dMH_high_3 (fun v21 hv21 => ?_)
  obtain rfl := (show v21 = .int (nI 95232) from hv21)
  refine mi_imul hx hb dMH_high_6 ?_
  refine mi_as (show nI (2 * 95232) = nI 190464 from rfl) ?_
  refine lv_irem hx hb dMH_high_7 (nI_ne0 (by omega) (by omega)) ?_
  refine mi_any (fun z21 => ?_)
  refine lv_istore_n (lv' := [(2, .int z21), (0, .ref h0), (1, .int v)]) hx hb dMH_high_8 rfl hl (by decide) rfl (fun ls hl => ?_)
  refine lv_iload_n hx hb dMH_high_9 rfl (lv_at hl 0 rfl) ?_
  refine lv_aload_n hx hb dMH_high_10 rfl (lv_at hl 1 rfl) ?_
  refine ty_get (ci := 12) (C := "LatticeKeysModel$Hands") (TT := T_MH) (N := 31) (kd := (46, 0)) hx hb hts (wg_ft i_MH) hown hK hO k_h0 (nxg hc0 k_h0 rfl) hP (fun _ h9 => h9) rfl 28 (by decide) (hts _ (wg_t kw_1460)) (fun _ h9 => h9) (cd := (1, 0, 95232)) rfl dMH_high_11 (fun v22 hv22 => ?_)
  obtain rfl := (show v22 = .int (nI 95232) from hv22)
  refine lv_icmp_le (tgt := 26) hx hb dMH_high_14 (by decide) (fun h21 => ?_) (fun h21 => ?_)
  · refine lv_iload_n hx hb dMH_high_26 rfl (lv_at hl 2 rfl) ?_
    refine lv_iload_n hx hb dMH_high_27 rfl (lv_at hl 0 rfl) ?_
    refine lv_isub hx hb dMH_high_28 ?_
    refine mi_any (fun z22 => ?_)
    refine lv_ldc (v := 8380416) hx hb hown (hts _ (wg_t kw_1884)) dMH_high_29 ?_
    refine mi_as (show (8380416 : Int32) = nI 8380416 by decide) ?_
    refine lv_icmp_ne (tgt := 38) hx hb dMH_high_31 (by decide) (fun h22 => ?_) (fun h22 => ?_)
    · refine lv_iload_n hx hb dMH_high_38 rfl (lv_at hl 2 rfl) ?_
      refine lv_iload_n hx hb dMH_high_39 rfl (lv_at hl 0 rfl) ?_
      refine lv_isub hx hb dMH_high_40 ?_
      refine mi_any (fun z23 => ?_)
      refine lv_iconst (v := nI 2) hx hb dMH_high_41 (by decide) ?_
      refine lv_aload_n hx hb dMH_high_42 rfl (lv_at hl 1 rfl) ?_
      refine ty_get (ci := 12) (C := "LatticeKeysModel$Hands") (TT := T_MH) (N := 31) (kd := (46, 0)) hx hb hts (wg_ft i_MH) hown hK hO k_h0 (nxg hc0 k_h0 rfl) hP (fun _ h9 => h9) rfl 28 (by decide) (hts _ (wg_t kw_1460)) (fun _ h9 => h9) (cd := (1, 0, 95232)) rfl dMH_high_43 (fun v23 hv23 => ?_)
      obtain rfl := (show v23 = .int (nI 95232) from hv23)
      refine mi_imul hx hb dMH_high_46 ?_
      refine mi_as (show nI (2 * 95232) = nI 190464 from rfl) ?_
      refine lv_idiv hx hb dMH_high_47 (nI_ne0 (by omega) (by omega)) ?_
      refine mi_any (fun z24 => ?_)
      exact mp_iret hx hb hr hlk hP hD hS pl ⟨trivial, hO⟩ [] rfl rfl rfl (by omega) (by omega) dMH_high_48
    · refine lv_iconst (v := nI 0) hx hb dMH_high_34 (by decide) ?_
      refine lv_goto (tgt := 48) hx hb dMH_high_35 (by decide) ?_
      exact mp_iret hx hb hr hlk hP hD hS pl ⟨trivial, hO⟩ [] rfl rfl rfl (by omega) (by omega) dMH_high_48
  · refine lv_iload_n hx hb dMH_high_17 rfl (lv_at hl 0 rfl) ?_
    refine lv_iconst (v := nI 2) hx hb dMH_high_18 (by decide) ?_
    refine lv_aload_n hx hb dMH_high_19 rfl (lv_at hl 1 rfl) ?_
    refine ty_get (ci := 12) (C := "LatticeKeysModel$Hands") (TT := T_MH) (N := 31) (kd := (46, 0)) hx hb hts (wg_ft i_MH) hown hK hO k_h0 (nxg hc0 k_h0 rfl) hP (fun _ h9 => h9) rfl 28 (by decide) (hts _ (wg_t kw_1460)) (fun _ h9 => h9) (cd := (1, 0, 95232)) rfl dMH_high_20 (fun v24 hv24 => ?_)
    obtain rfl := (show v24 = .int (nI 95232) from hv24)
    refine mi_imul hx hb dMH_high_23 ?_
    refine mi_as (show nI (2 * 95232) = nI 190464 from rfl) ?_
    refine lv_isub hx hb dMH_high_24 ?_
    refine mi_any (fun z25 => ?_)
    refine lv_istore_n (lv' := [(2, .int z25), (0, .ref h0), (1, .int v)]) hx hb dMH_high_25 rfl hl (by decide) rfl (fun ls hl => ?_)
    refine lv_iload_n hx hb dMH_high_26 rfl (lv_at hl 2 rfl) ?_
    refine lv_iload_n hx hb dMH_high_27 rfl (lv_at hl 0 rfl) ?_
    refine lv_isub hx hb dMH_high_28 ?_
    refine mi_any (fun z26 => ?_)
    refine lv_ldc (v := 8380416) hx hb hown (hts _ (wg_t kw_1884)) dMH_high_29 ?_
    refine mi_as (show (8380416 : Int32) = nI 8380416 by decide) ?_
    refine lv_icmp_ne (tgt := 38) hx hb dMH_high_31 (by decide) (fun h23 => ?_) (fun h23 => ?_)
    · refine lv_iload_n hx hb dMH_high_38 rfl (lv_at hl 2 rfl) ?_
      refine lv_iload_n hx hb dMH_high_39 rfl (lv_at hl 0 rfl) ?_
      refine lv_isub hx hb dMH_high_40 ?_
      refine mi_any (fun z27 => ?_)
      refine lv_iconst (v := nI 2) hx hb dMH_high_41 (by decide) ?_
      refine lv_aload_n hx hb dMH_high_42 rfl (lv_at hl 1 rfl) ?_
      refine ty_get (ci := 12) (C := "LatticeKeysModel$Hands") (TT := T_MH) (N := 31) (kd := (46, 0)) hx hb hts (wg_ft i_MH) hown hK hO k_h0 (nxg hc0 k_h0 rfl) hP (fun _ h9 => h9) rfl 28 (by decide) (hts _ (wg_t kw_1460)) (fun _ h9 => h9) (cd := (1, 0, 95232)) rfl dMH_high_43 (fun v25 hv25 => ?_)
      obtain rfl := (show v25 = .int (nI 95232) from hv25)
      refine mi_imul hx hb dMH_high_46 ?_
      refine mi_as (show nI (2 * 95232) = nI 190464 from rfl) ?_
      refine lv_idiv hx hb dMH_high_47 (nI_ne0 (by omega) (by omega)) ?_
      refine mi_any (fun z28 => ?_)
      exact mp_iret hx hb hr hlk hP hD hS pl ⟨trivial, hO⟩ [] rfl rfl rfl (by omega) (by omega) dMH_high_48
    · refine lv_iconst (v := nI 0) hx hb dMH_high_34 (by decide) ?_
      refine lv_goto (tgt := 48) hx hb dMH_high_35 (by decide) ?_
      exact mp_iret hx hb hr hlk hP hD hS pl ⟨trivial, hO⟩ [] rfl rfl rfl (by omega) (by omega) dMH_high_48
set_option maxHeartbeats 400000 in
set_option maxRecDepth 100000 in
theorem t_MH_high_1 (l : Launch) (g : Gd) (sz : Nat) (T : Ty) (xs : List Nat) (pl : va_W) (hO : okx g T xs pl) (hU : uni T) (hc0 : clo T xs 0) (h0 : Nat) (v : Int32) (k_h0 : T h0 = some (47, 0))  : Met l y_MH_high w_MH_high ({ frames := 0, cells := 0, slots := 0, locals := 0 } : Room) (va_Pc [.ref h0, .int v] (pr (en g) g.1 vcl sz ([] ++ pl))) (va_Qi (fun (r : Int32) (u : va_W) => (True) ∧ okx g T xs u) (po g.1 vcl (va_A ([] ++ pl) sz) (fun (u : va_W) => [] ++ u)) (va_A ([] ++ pl) sz)) 0 0 (va_A ([] ++ pl) sz) := by
  refine mc_entry (cc := c_MH_high) (maxL := 3) (ret := (some .int)) (by decide) rfl (Nat.le_of_ble_eq_true rfl) ?_
  intro p e s m args below meth c ls F hr hlk hnm hsz hP hD hE hA hl
  obtain ⟨hx, hb, hml, hown, hts⟩ := id F
  have hK := hE.1
  generalize va_A ([] ++ pl) sz = A at hD hE hA ⊢
  have hS : va_S A s.heap s.heap [] := va_S.rf
  have hl : lv_has ls 3 [(0, .ref h0), (1, .int v)] := hl
  refine lv_iload_n hx hb dMH_high_0 rfl (lv_at hl 1 rfl) ?_
  refine lv_iconst (v := nI 2) hx hb dMH_high_1 (by decide) ?_
  refine lv_aload_n hx hb dMH_high_2 rfl (lv_at hl 0 rfl) ?_
  refine ty_get (ci := 12) (C := "LatticeKeysModel$Hands") (TT := T_MH) (N := 31) (kd := (47, 0)) hx hb hts (wg_ft i_MH) hown hK hO k_h0 (nxg hc0 k_h0 rfl) hP (fun _ h9 => h9) rfl 28 (by decide) (hts _ (wg_t kw_1460)) (fun _ h9 => h9) (cd := (1, 0, 261888)) rfl dMH_high_3 (fun v21 hv21 => ?_)
  obtain rfl := (show v21 = .int (nI 261888) from hv21)
  refine mi_imul hx hb dMH_high_6 ?_
  refine mi_as (show nI (2 * 261888) = nI 523776 from rfl) ?_
  refine lv_irem hx hb dMH_high_7 (nI_ne0 (by omega) (by omega)) ?_
  refine mi_any (fun z21 => ?_)
  refine lv_istore_n (lv' := [(2, .int z21), (0, .ref h0), (1, .int v)]) hx hb dMH_high_8 rfl hl (by decide) rfl (fun ls hl => ?_)
  refine lv_iload_n hx hb dMH_high_9 rfl (lv_at hl 0 rfl) ?_
  refine lv_aload_n hx hb dMH_high_10 rfl (lv_at hl 1 rfl) ?_
  refine ty_get (ci := 12) (C := "LatticeKeysModel$Hands") (TT := T_MH) (N := 31) (kd := (47, 0)) hx hb hts (wg_ft i_MH) hown hK hO k_h0 (nxg hc0 k_h0 rfl) hP (fun _ h9 => h9) rfl 28 (by decide) (hts _ (wg_t kw_1460)) (fun _ h9 => h9) (cd := (1, 0, 261888)) rfl dMH_high_11 (fun v22 hv22 => ?_)
  obtain rfl := (show v22 = .int (nI 261888) from hv22)
  refine lv_icmp_le (tgt := 26) hx hb dMH_high_14 (by decide) (fun h21 => ?_) (fun h21 => ?_)
  · refine lv_iload_n hx hb dMH_high_26 rfl (lv_at hl 2 rfl) ?_
    refine lv_iload_n hx hb dMH_high_27 rfl (lv_at hl 0 rfl) ?_
    refine lv_isub hx hb dMH_high_28 ?_
    refine mi_any (fun z22 => ?_)
    refine lv_ldc (v := 8380416) hx hb hown (hts _ (wg_t kw_1884)) dMH_high_29 ?_
    refine mi_as (show (8380416 : Int32) = nI 8380416 by decide) ?_
    refine lv_icmp_ne (tgt := 38) hx hb dMH_high_31 (by decide) (fun h22 => ?_) (fun h22 => ?_)
    · refine lv_iload_n hx hb dMH_high_38 rfl (lv_at hl 2 rfl) ?_
      refine lv_iload_n hx hb dMH_high_39 rfl (lv_at hl 0 rfl) ?_
      refine lv_isub hx hb dMH_high_40 ?_
      refine mi_any (fun z23 => ?_)
      refine lv_iconst (v := nI 2) hx hb dMH_high_41 (by decide) ?_
      refine lv_aload_n hx hb dMH_high_42 rfl (lv_at hl 1 rfl) ?_
      refine ty_get (ci := 12) (C := "LatticeKeysModel$Hands") (TT := T_MH) (N := 31) (kd := (47, 0)) hx hb hts (wg_ft i_MH) hown hK hO k_h0 (nxg hc0 k_h0 rfl) hP (fun _ h9 => h9) rfl 28 (by decide) (hts _ (wg_t kw_1460)) (fun _ h9 => h9) (cd := (1, 0, 261888)) rfl dMH_high_43 (fun v23 hv23 => ?_)
      obtain rfl := (show v23 = .int (nI 261888) from hv23)
      refine mi_imul hx hb dMH_high_46 ?_
      refine mi_as (show nI (2 * 261888) = nI 523776 from rfl) ?_
      refine lv_idiv hx hb dMH_high_47 (nI_ne0 (by omega) (by omega)) ?_
      refine mi_any (fun z24 => ?_)
      exact mp_iret hx hb hr hlk hP hD hS pl ⟨trivial, hO⟩ [] rfl rfl rfl (by omega) (by omega) dMH_high_48
    · refine lv_iconst (v := nI 0) hx hb dMH_high_34 (by decide) ?_
      refine lv_goto (tgt := 48) hx hb dMH_high_35 (by decide) ?_
      exact mp_iret hx hb hr hlk hP hD hS pl ⟨trivial, hO⟩ [] rfl rfl rfl (by omega) (by omega) dMH_high_48
  · refine lv_iload_n hx hb dMH_high_17 rfl (lv_at hl 0 rfl) ?_
    refine lv_iconst (v := nI 2) hx hb dMH_high_18 (by decide) ?_
    refine lv_aload_n hx hb dMH_high_19 rfl (lv_at hl 1 rfl) ?_
    refine ty_get (ci := 12) (C := "LatticeKeysModel$Hands") (TT := T_MH) (N := 31) (kd := (47, 0)) hx hb hts (wg_ft i_MH) hown hK hO k_h0 (nxg hc0 k_h0 rfl) hP (fun _ h9 => h9) rfl 28 (by decide) (hts _ (wg_t kw_1460)) (fun _ h9 => h9) (cd := (1, 0, 261888)) rfl dMH_high_20 (fun v24 hv24 => ?_)
    obtain rfl := (show v24 = .int (nI 261888) from hv24)
    refine mi_imul hx hb dMH_high_23 ?_
    refine mi_as (show nI (2 * 261888) = nI 523776 from rfl) ?_
    refine lv_isub hx hb dMH_high_24 ?_
    refine mi_any (fun z25 => ?_)
    refine lv_istore_n (lv' := [(2, .int z25), (0, .ref h0), (1, .int v)]) hx hb dMH_high_25 rfl hl (by decide) rfl (fun ls hl => ?_)
    refine lv_iload_n hx hb dMH_high_26 rfl (lv_at hl 2 rfl) ?_
    refine lv_iload_n hx hb dMH_high_27 rfl (lv_at hl 0 rfl) ?_
    refine lv_isub hx hb dMH_high_28 ?_
    refine mi_any (fun z26 => ?_)
    refine lv_ldc (v := 8380416) hx hb hown (hts _ (wg_t kw_1884)) dMH_high_29 ?_
    refine mi_as (show (8380416 : Int32) = nI 8380416 by decide) ?_
    refine lv_icmp_ne (tgt := 38) hx hb dMH_high_31 (by decide) (fun h23 => ?_) (fun h23 => ?_)
    · refine lv_iload_n hx hb dMH_high_38 rfl (lv_at hl 2 rfl) ?_
      refine lv_iload_n hx hb dMH_high_39 rfl (lv_at hl 0 rfl) ?_
      refine lv_isub hx hb dMH_high_40 ?_
      refine mi_any (fun z27 => ?_)
      refine lv_iconst (v := nI 2) hx hb dMH_high_41 (by decide) ?_
      refine lv_aload_n hx hb dMH_high_42 rfl (lv_at hl 1 rfl) ?_
      refine ty_get (ci := 12) (C := "LatticeKeysModel$Hands") (TT := T_MH) (N := 31) (kd := (47, 0)) hx hb hts (wg_ft i_MH) hown hK hO k_h0 (nxg hc0 k_h0 rfl) hP (fun _ h9 => h9) rfl 28 (by decide) (hts _ (wg_t kw_1460)) (fun _ h9 => h9) (cd := (1, 0, 261888)) rfl dMH_high_43 (fun v25 hv25 => ?_)
      obtain rfl := (show v25 = .int (nI 261888) from hv25)
      refine mi_imul hx hb dMH_high_46 ?_
      refine mi_as (show nI (2 * 261888) = nI 523776 from rfl) ?_
      refine lv_idiv hx hb dMH_high_47 (nI_ne0 (by omega) (by omega)) ?_
      refine mi_any (fun z28 => ?_)
      exact mp_iret hx hb hr hlk hP hD hS pl ⟨trivial, hO⟩ [] rfl rfl rfl (by omega) (by omega) dMH_high_48
    · refine lv_iconst (v := nI 0) hx hb dMH_high_34 (by decide) ?_
      refine lv_goto (tgt := 48) hx hb dMH_high_35 (by decide) ?_
      exact mp_iret hx hb hr hlk hP hD hS pl ⟨trivial, hO⟩ [] rfl rfl rfl (by omega) (by omega) dMH_high_48
set_option maxHeartbeats 400000 in
set_option maxRecDepth 100000 in
theorem t_MH_high_2 (l : Launch) (g : Gd) (sz : Nat) (T : Ty) (xs : List Nat) (pl : va_W) (hO : okx g T xs pl) (hU : uni T) (hc0 : clo T xs 0) (h0 : Nat) (v : Int32) (k_h0 : T h0 = some (48, 0))  : Met l y_MH_high w_MH_high ({ frames := 0, cells := 0, slots := 0, locals := 0 } : Room) (va_Pc [.ref h0, .int v] (pr (en g) g.1 vcl sz ([] ++ pl))) (va_Qi (fun (r : Int32) (u : va_W) => (True) ∧ okx g T xs u) (po g.1 vcl (va_A ([] ++ pl) sz) (fun (u : va_W) => [] ++ u)) (va_A ([] ++ pl) sz)) 0 0 (va_A ([] ++ pl) sz) := by
  refine mc_entry (cc := c_MH_high) (maxL := 3) (ret := (some .int)) (by decide) rfl (Nat.le_of_ble_eq_true rfl) ?_
  intro p e s m args below meth c ls F hr hlk hnm hsz hP hD hE hA hl
  obtain ⟨hx, hb, hml, hown, hts⟩ := id F
  have hK := hE.1
  generalize va_A ([] ++ pl) sz = A at hD hE hA ⊢
  have hS : va_S A s.heap s.heap [] := va_S.rf
  have hl : lv_has ls 3 [(0, .ref h0), (1, .int v)] := hl
  refine lv_iload_n hx hb dMH_high_0 rfl (lv_at hl 1 rfl) ?_
  refine lv_iconst (v := nI 2) hx hb dMH_high_1 (by decide) ?_
  refine lv_aload_n hx hb dMH_high_2 rfl (lv_at hl 0 rfl) ?_
  refine ty_get (ci := 12) (C := "LatticeKeysModel$Hands") (TT := T_MH) (N := 31) (kd := (48, 0)) hx hb hts (wg_ft i_MH) hown hK hO k_h0 (nxg hc0 k_h0 rfl) hP (fun _ h9 => h9) rfl 28 (by decide) (hts _ (wg_t kw_1460)) (fun _ h9 => h9) (cd := (1, 0, 261888)) rfl dMH_high_3 (fun v21 hv21 => ?_)
  obtain rfl := (show v21 = .int (nI 261888) from hv21)
  refine mi_imul hx hb dMH_high_6 ?_
  refine mi_as (show nI (2 * 261888) = nI 523776 from rfl) ?_
  refine lv_irem hx hb dMH_high_7 (nI_ne0 (by omega) (by omega)) ?_
  refine mi_any (fun z21 => ?_)
  refine lv_istore_n (lv' := [(2, .int z21), (0, .ref h0), (1, .int v)]) hx hb dMH_high_8 rfl hl (by decide) rfl (fun ls hl => ?_)
  refine lv_iload_n hx hb dMH_high_9 rfl (lv_at hl 0 rfl) ?_
  refine lv_aload_n hx hb dMH_high_10 rfl (lv_at hl 1 rfl) ?_
  refine ty_get (ci := 12) (C := "LatticeKeysModel$Hands") (TT := T_MH) (N := 31) (kd := (48, 0)) hx hb hts (wg_ft i_MH) hown hK hO k_h0 (nxg hc0 k_h0 rfl) hP (fun _ h9 => h9) rfl 28 (by decide) (hts _ (wg_t kw_1460)) (fun _ h9 => h9) (cd := (1, 0, 261888)) rfl dMH_high_11 (fun v22 hv22 => ?_)
  obtain rfl := (show v22 = .int (nI 261888) from hv22)
  refine lv_icmp_le (tgt := 26) hx hb dMH_high_14 (by decide) (fun h21 => ?_) (fun h21 => ?_)
  · refine lv_iload_n hx hb dMH_high_26 rfl (lv_at hl 2 rfl) ?_
    refine lv_iload_n hx hb dMH_high_27 rfl (lv_at hl 0 rfl) ?_
    refine lv_isub hx hb dMH_high_28 ?_
    refine mi_any (fun z22 => ?_)
    refine lv_ldc (v := 8380416) hx hb hown (hts _ (wg_t kw_1884)) dMH_high_29 ?_
    refine mi_as (show (8380416 : Int32) = nI 8380416 by decide) ?_
    refine lv_icmp_ne (tgt := 38) hx hb dMH_high_31 (by decide) (fun h22 => ?_) (fun h22 => ?_)
    · refine lv_iload_n hx hb dMH_high_38 rfl (lv_at hl 2 rfl) ?_
      refine lv_iload_n hx hb dMH_high_39 rfl (lv_at hl 0 rfl) ?_
      refine lv_isub hx hb dMH_high_40 ?_
      refine mi_any (fun z23 => ?_)
      refine lv_iconst (v := nI 2) hx hb dMH_high_41 (by decide) ?_
      refine lv_aload_n hx hb dMH_high_42 rfl (lv_at hl 1 rfl) ?_
      refine ty_get (ci := 12) (C := "LatticeKeysModel$Hands") (TT := T_MH) (N := 31) (kd := (48, 0)) hx hb hts (wg_ft i_MH) hown hK hO k_h0 (nxg hc0 k_h0 rfl) hP (fun _ h9 => h9) rfl 28 (by decide) (hts _ (wg_t kw_1460)) (fun _ h9 => h9) (cd := (1, 0, 261888)) rfl dMH_high_43 (fun v23 hv23 => ?_)
      obtain rfl := (show v23 = .int (nI 261888) from hv23)
      refine mi_imul hx hb dMH_high_46 ?_
      refine mi_as (show nI (2 * 261888) = nI 523776 from rfl) ?_
      refine lv_idiv hx hb dMH_high_47 (nI_ne0 (by omega) (by omega)) ?_
      refine mi_any (fun z24 => ?_)
      exact mp_iret hx hb hr hlk hP hD hS pl ⟨trivial, hO⟩ [] rfl rfl rfl (by omega) (by omega) dMH_high_48
    · refine lv_iconst (v := nI 0) hx hb dMH_high_34 (by decide) ?_
      refine lv_goto (tgt := 48) hx hb dMH_high_35 (by decide) ?_
      exact mp_iret hx hb hr hlk hP hD hS pl ⟨trivial, hO⟩ [] rfl rfl rfl (by omega) (by omega) dMH_high_48
  · refine lv_iload_n hx hb dMH_high_17 rfl (lv_at hl 0 rfl) ?_
    refine lv_iconst (v := nI 2) hx hb dMH_high_18 (by decide) ?_
    refine lv_aload_n hx hb dMH_high_19 rfl (lv_at hl 1 rfl) ?_
    refine ty_get (ci := 12) (C := "LatticeKeysModel$Hands") (TT := T_MH) (N := 31) (kd := (48, 0)) hx hb hts (wg_ft i_MH) hown hK hO k_h0 (nxg hc0 k_h0 rfl) hP (fun _ h9 => h9) rfl 28 (by decide) (hts _ (wg_t kw_1460)) (fun _ h9 => h9) (cd := (1, 0, 261888)) rfl dMH_high_20 (fun v24 hv24 => ?_)
    obtain rfl := (show v24 = .int (nI 261888) from hv24)
    refine mi_imul hx hb dMH_high_23 ?_
    refine mi_as (show nI (2 * 261888) = nI 523776 from rfl) ?_
    refine lv_isub hx hb dMH_high_24 ?_
    refine mi_any (fun z25 => ?_)
    refine lv_istore_n (lv' := [(2, .int z25), (0, .ref h0), (1, .int v)]) hx hb dMH_high_25 rfl hl (by decide) rfl (fun ls hl => ?_)
    refine lv_iload_n hx hb dMH_high_26 rfl (lv_at hl 2 rfl) ?_
    refine lv_iload_n hx hb dMH_high_27 rfl (lv_at hl 0 rfl) ?_
    refine lv_isub hx hb dMH_high_28 ?_
    refine mi_any (fun z26 => ?_)
    refine lv_ldc (v := 8380416) hx hb hown (hts _ (wg_t kw_1884)) dMH_high_29 ?_
    refine mi_as (show (8380416 : Int32) = nI 8380416 by decide) ?_
    refine lv_icmp_ne (tgt := 38) hx hb dMH_high_31 (by decide) (fun h23 => ?_) (fun h23 => ?_)
    · refine lv_iload_n hx hb dMH_high_38 rfl (lv_at hl 2 rfl) ?_
      refine lv_iload_n hx hb dMH_high_39 rfl (lv_at hl 0 rfl) ?_
      refine lv_isub hx hb dMH_high_40 ?_
      refine mi_any (fun z27 => ?_)
      refine lv_iconst (v := nI 2) hx hb dMH_high_41 (by decide) ?_
      refine lv_aload_n hx hb dMH_high_42 rfl (lv_at hl 1 rfl) ?_
      refine ty_get (ci := 12) (C := "LatticeKeysModel$Hands") (TT := T_MH) (N := 31) (kd := (48, 0)) hx hb hts (wg_ft i_MH) hown hK hO k_h0 (nxg hc0 k_h0 rfl) hP (fun _ h9 => h9) rfl 28 (by decide) (hts _ (wg_t kw_1460)) (fun _ h9 => h9) (cd := (1, 0, 261888)) rfl dMH_high_43 (fun v25 hv25 => ?_)
      obtain rfl := (show v25 = .int (nI 261888) from hv25)
      refine mi_imul hx hb dMH_high_46 ?_
      refine mi_as (show nI (2 * 261888) = nI 523776 from rfl) ?_
      refine lv_idiv hx hb dMH_high_47 (nI_ne0 (by omega) (by omega)) ?_
      refine mi_any (fun z28 => ?_)
      exact mp_iret hx hb hr hlk hP hD hS pl ⟨trivial, hO⟩ [] rfl rfl rfl (by omega) (by omega) dMH_high_48
    · refine lv_iconst (v := nI 0) hx hb dMH_high_34 (by decide) ?_
      refine lv_goto (tgt := 48) hx hb dMH_high_35 (by decide) ?_
      exact mp_iret hx hb hr hlk hP hD hS pl ⟨trivial, hO⟩ [] rfl rfl rfl (by omega) (by omega) dMH_high_48
set_option maxHeartbeats 400000 in
set_option maxRecDepth 100000 in
theorem t_MH_used_0 (l : Launch) (g : Gd) (sz : Nat) (T : Ty) (xs : List Nat) (pl : va_W) (hO : okx g T xs pl) (hU : uni T) (hc0 : clo T xs 0) (h0 : Nat) (hh : Int32) (v : Int32) (k_h0 : T h0 = some (46, 0))  : Met l y_MH_used w_MH_used ({ frames := 1, cells := 0, slots := 0, locals := 22 } : Room) (va_Pc [.ref h0, .int hh, .int v] (pr (en g) g.1 vcl sz ([] ++ pl))) (va_Qi (fun (r : Int32) (u : va_W) => (True) ∧ okx g T xs u) (po g.1 vcl (va_A ([] ++ pl) sz) (fun (u : va_W) => [] ++ u)) (va_A ([] ++ pl) sz)) 0 0 (va_A ([] ++ pl) sz) := by
  refine mc_entry (cc := c_MH_used) (maxL := 4) (ret := (some .int)) (by decide) rfl (Nat.le_of_ble_eq_true rfl) ?_
  intro p e s m args below meth c ls F hr hlk hnm hsz hP hD hE hA hl
  obtain ⟨hx, hb, hml, hown, hts⟩ := id F
  have hK := hE.1
  generalize va_A ([] ++ pl) sz = A at hD hE hA ⊢
  have hS : va_S A s.heap s.heap [] := va_S.rf
  have hl : lv_has ls 4 [(0, .ref h0), (1, .int hh), (2, .int v)] := hl
  refine lv_ldc (v := 8380416) hx hb hown (hts _ (wg_t kw_1884)) dMH_used_0 ?_
  refine mi_as (show (8380416 : Int32) = nI 8380416 by decide) ?_
  refine lv_iconst (v := nI 2) hx hb dMH_used_2 (by decide) ?_
  refine lv_aload_n hx hb dMH_used_3 rfl (lv_at hl 0 rfl) ?_
  refine ty_get (ci := 12) (C := "LatticeKeysModel$Hands") (TT := T_MH) (N := 31) (kd := (46, 0)) hx hb hts (wg_ft i_MH) hown hK hO k_h0 (nxg hc0 k_h0 rfl) hP (fun _ h9 => h9) rfl 28 (by decide) (hts _ (wg_t kw_1460)) (fun _ h9 => h9) (cd := (1, 0, 95232)) rfl dMH_used_4 (fun v21 hv21 => ?_)
  obtain rfl := (show v21 = .int (nI 95232) from hv21)
  refine mi_imul hx hb dMH_used_7 ?_
  refine mi_as (show nI (2 * 95232) = nI 190464 from rfl) ?_
  refine mi_idiv hx hb dMH_used_8 (by omega) (by omega) (by omega) ?_
  refine mi_as (show nI (8380416 / 190464) = nI 44 from rfl) ?_
  refine lv_istore_n (lv' := [(3, .int (nI 44)), (0, .ref h0), (1, .int hh), (2, .int v)]) hx hb dMH_used_9 rfl hl (by decide) rfl (fun ls hl => ?_)
  refine lv_iload_n hx hb dMH_used_10 rfl (lv_at hl 2 rfl) ?_
  refine lv_if_ne (tgt := 20) hx hb dMH_used_11 (by decide) (fun h21 => ?_) (fun h21 => ?_)
  · refine lv_aload_n hx hb dMH_used_20 rfl (lv_at hl 1 rfl) ?_
    refine lv_iload_n hx hb dMH_used_21 rfl (lv_at hl 3 rfl) ?_
    refine mp_i (cx := []) (wr := []) hP hD hS hA [] [] rfl rfl rfl (by decide) (va_runV (As := [.int v]) (rest := []) F (t_MH_low_0 l g _ T xs pl hO hU hc0 h0 v k_h0) (cwV 1 hts (wg_app (wg_c kw_1889 (wg_c kw_1891 (wg_c ks_76 (wg_c kw_13 wg_n)))) kw_1892) rfl rfl rfl (by decide +kernel) ⟨by decide, by decide⟩) (pp_VT (en_ok g) (ci := 12) (kd := (46, 0)) hK hO k_h0 (nxg hc0 k_h0 rfl) (fun _ h9 => ko1 h9) hP hD hS hA hE [] rfl rfl rfl) rfl rfl hl.1 rfl (lv_room (Nat.le_of_ble_eq_true rfl)) dMH_used_22 ⟨by omega, by omega⟩) (fun r21 pl H locs hu21 hP hD hS => ?_)
    obtain ⟨hq21, hO⟩ := hu21
    have hP : va_P g.1 vcl ([] ++ pl) _ := hP
    have hD : va_D _ ([] ++ pl) := hD
    refine W.widen (k := 0) (n := 0) (by omega) (by omega) ?_
    refine lv_if_le (tgt := 40) hx hb dMH_used_25 (by decide) (fun h22 => ?_) (fun h22 => ?_)
    · refine lv_aload_n hx hb dMH_used_40 rfl (lv_at hl 1 rfl) ?_
      refine lv_iload_n hx hb dMH_used_41 rfl (lv_at hl 3 rfl) ?_
      refine mp_i (cx := []) (wr := []) hP hD hS hA [] [] rfl rfl rfl (by decide) (va_runV (As := [.int v]) (rest := []) F (t_MH_high_0 l g _ T xs pl hO hU hc0 h0 v k_h0) (cwV 1 hts (wg_app (wg_c kw_1885 (wg_c kw_1887 (wg_c ks_75 (wg_c kw_13 wg_n)))) kw_1888) rfl rfl rfl (by decide +kernel) ⟨by decide, by decide⟩) (pp_VT (en_ok g) (ci := 12) (kd := (46, 0)) hK hO k_h0 (nxg hc0 k_h0 rfl) (fun _ h9 => ko1 h9) hP hD hS hA hE [] rfl rfl rfl) rfl rfl hl.1 rfl (lv_room (Nat.le_of_ble_eq_true rfl)) dMH_used_42 ⟨by omega, by omega⟩) (fun r22 pl H locs hu22 hP hD hS => ?_)
      obtain ⟨hq22, hO⟩ := hu22
      have hP : va_P g.1 vcl ([] ++ pl) _ := hP
      have hD : va_D _ ([] ++ pl) := hD
      refine W.widen (k := 0) (n := 0) (by omega) (by omega) ?_
      refine lv_iload_n hx hb dMH_used_45 rfl (lv_at hl 0 rfl) ?_
      refine lv_iadd hx hb dMH_used_46 ?_
      refine mi_any (fun z21 => ?_)
      refine lv_iconst (v := nI 1) hx hb dMH_used_47 (by decide) ?_
      refine lv_isub hx hb dMH_used_48 ?_
      refine mi_any (fun z22 => ?_)
      refine lv_iload_n hx hb dMH_used_49 rfl (lv_at hl 0 rfl) ?_
      refine lv_irem hx hb dMH_used_50 (nI_ne0 (by omega) (by omega)) ?_
      refine mi_any (fun z23 => ?_)
      exact mp_iret hx hb hr hlk hP hD hS pl ⟨trivial, hO⟩ [] rfl rfl rfl (by omega) (by omega) dMH_used_51
    · refine lv_aload_n hx hb dMH_used_28 rfl (lv_at hl 1 rfl) ?_
      refine lv_iload_n hx hb dMH_used_29 rfl (lv_at hl 3 rfl) ?_
      refine mp_i (cx := []) (wr := []) hP hD hS hA [] [] rfl rfl rfl (by decide) (va_runV (As := [.int v]) (rest := []) F (t_MH_high_0 l g _ T xs pl hO hU hc0 h0 v k_h0) (cwV 1 hts (wg_app (wg_c kw_1885 (wg_c kw_1887 (wg_c ks_75 (wg_c kw_13 wg_n)))) kw_1888) rfl rfl rfl (by decide +kernel) ⟨by decide, by decide⟩) (pp_VT (en_ok g) (ci := 12) (kd := (46, 0)) hK hO k_h0 (nxg hc0 k_h0 rfl) (fun _ h9 => ko1 h9) hP hD hS hA hE [] rfl rfl rfl) rfl rfl hl.1 rfl (lv_room (Nat.le_of_ble_eq_true rfl)) dMH_used_30 ⟨by omega, by omega⟩) (fun r23 pl H locs hu23 hP hD hS => ?_)
      obtain ⟨hq23, hO⟩ := hu23
      have hP : va_P g.1 vcl ([] ++ pl) _ := hP
      have hD : va_D _ ([] ++ pl) := hD
      refine W.widen (k := 0) (n := 0) (by omega) (by omega) ?_
      refine lv_iconst (v := nI 1) hx hb dMH_used_33 (by decide) ?_
      refine lv_iadd hx hb dMH_used_34 ?_
      refine mi_any (fun z24 => ?_)
      refine lv_iload_n hx hb dMH_used_35 rfl (lv_at hl 0 rfl) ?_
      refine lv_irem hx hb dMH_used_36 (nI_ne0 (by omega) (by omega)) ?_
      refine mi_any (fun z25 => ?_)
      refine lv_goto (tgt := 51) hx hb dMH_used_37 (by decide) ?_
      exact mp_iret hx hb hr hlk hP hD hS pl ⟨trivial, hO⟩ [] rfl rfl rfl (by omega) (by omega) dMH_used_51
  · refine lv_aload_n hx hb dMH_used_14 rfl (lv_at hl 1 rfl) ?_
    refine lv_iload_n hx hb dMH_used_15 rfl (lv_at hl 3 rfl) ?_
    refine mp_i (cx := []) (wr := []) hP hD hS hA [] [] rfl rfl rfl (by decide) (va_runV (As := [.int v]) (rest := []) F (t_MH_high_0 l g _ T xs pl hO hU hc0 h0 v k_h0) (cwV 1 hts (wg_app (wg_c kw_1885 (wg_c kw_1887 (wg_c ks_75 (wg_c kw_13 wg_n)))) kw_1888) rfl rfl rfl (by decide +kernel) ⟨by decide, by decide⟩) (pp_VT (en_ok g) (ci := 12) (kd := (46, 0)) hK hO k_h0 (nxg hc0 k_h0 rfl) (fun _ h9 => ko1 h9) hP hD hS hA hE [] rfl rfl rfl) rfl rfl hl.1 rfl (lv_room (Nat.le_of_ble_eq_true rfl)) dMH_used_16 ⟨by omega, by omega⟩) (fun r24 pl H locs hu24 hP hD hS => ?_)
    obtain ⟨hq24, hO⟩ := hu24
    have hP : va_P g.1 vcl ([] ++ pl) _ := hP
    have hD : va_D _ ([] ++ pl) := hD
    refine W.widen (k := 0) (n := 0) (by omega) (by omega) ?_
    exact mp_iret hx hb hr hlk hP hD hS pl ⟨trivial, hO⟩ [] rfl rfl rfl (by omega) (by omega) dMH_used_19
set_option maxHeartbeats 400000 in
set_option maxRecDepth 100000 in
theorem t_MH_used_1 (l : Launch) (g : Gd) (sz : Nat) (T : Ty) (xs : List Nat) (pl : va_W) (hO : okx g T xs pl) (hU : uni T) (hc0 : clo T xs 0) (h0 : Nat) (hh : Int32) (v : Int32) (k_h0 : T h0 = some (47, 0))  : Met l y_MH_used w_MH_used ({ frames := 1, cells := 0, slots := 0, locals := 22 } : Room) (va_Pc [.ref h0, .int hh, .int v] (pr (en g) g.1 vcl sz ([] ++ pl))) (va_Qi (fun (r : Int32) (u : va_W) => (True) ∧ okx g T xs u) (po g.1 vcl (va_A ([] ++ pl) sz) (fun (u : va_W) => [] ++ u)) (va_A ([] ++ pl) sz)) 0 0 (va_A ([] ++ pl) sz) := by
  refine mc_entry (cc := c_MH_used) (maxL := 4) (ret := (some .int)) (by decide) rfl (Nat.le_of_ble_eq_true rfl) ?_
  intro p e s m args below meth c ls F hr hlk hnm hsz hP hD hE hA hl
  obtain ⟨hx, hb, hml, hown, hts⟩ := id F
  have hK := hE.1
  generalize va_A ([] ++ pl) sz = A at hD hE hA ⊢
  have hS : va_S A s.heap s.heap [] := va_S.rf
  have hl : lv_has ls 4 [(0, .ref h0), (1, .int hh), (2, .int v)] := hl
  refine lv_ldc (v := 8380416) hx hb hown (hts _ (wg_t kw_1884)) dMH_used_0 ?_
  refine mi_as (show (8380416 : Int32) = nI 8380416 by decide) ?_
  refine lv_iconst (v := nI 2) hx hb dMH_used_2 (by decide) ?_
  refine lv_aload_n hx hb dMH_used_3 rfl (lv_at hl 0 rfl) ?_
  refine ty_get (ci := 12) (C := "LatticeKeysModel$Hands") (TT := T_MH) (N := 31) (kd := (47, 0)) hx hb hts (wg_ft i_MH) hown hK hO k_h0 (nxg hc0 k_h0 rfl) hP (fun _ h9 => h9) rfl 28 (by decide) (hts _ (wg_t kw_1460)) (fun _ h9 => h9) (cd := (1, 0, 261888)) rfl dMH_used_4 (fun v21 hv21 => ?_)
  obtain rfl := (show v21 = .int (nI 261888) from hv21)
  refine mi_imul hx hb dMH_used_7 ?_
  refine mi_as (show nI (2 * 261888) = nI 523776 from rfl) ?_
  refine mi_idiv hx hb dMH_used_8 (by omega) (by omega) (by omega) ?_
  refine mi_as (show nI (8380416 / 523776) = nI 16 from rfl) ?_
  refine lv_istore_n (lv' := [(3, .int (nI 16)), (0, .ref h0), (1, .int hh), (2, .int v)]) hx hb dMH_used_9 rfl hl (by decide) rfl (fun ls hl => ?_)
  refine lv_iload_n hx hb dMH_used_10 rfl (lv_at hl 2 rfl) ?_
  refine lv_if_ne (tgt := 20) hx hb dMH_used_11 (by decide) (fun h21 => ?_) (fun h21 => ?_)
  · refine lv_aload_n hx hb dMH_used_20 rfl (lv_at hl 1 rfl) ?_
    refine lv_iload_n hx hb dMH_used_21 rfl (lv_at hl 3 rfl) ?_
    refine mp_i (cx := []) (wr := []) hP hD hS hA [] [] rfl rfl rfl (by decide) (va_runV (As := [.int v]) (rest := []) F (t_MH_low_1 l g _ T xs pl hO hU hc0 h0 v k_h0) (cwV 1 hts (wg_app (wg_c kw_1889 (wg_c kw_1891 (wg_c ks_76 (wg_c kw_13 wg_n)))) kw_1892) rfl rfl rfl (by decide +kernel) ⟨by decide, by decide⟩) (pp_VT (en_ok g) (ci := 12) (kd := (47, 0)) hK hO k_h0 (nxg hc0 k_h0 rfl) (fun _ h9 => ko1 h9) hP hD hS hA hE [] rfl rfl rfl) rfl rfl hl.1 rfl (lv_room (Nat.le_of_ble_eq_true rfl)) dMH_used_22 ⟨by omega, by omega⟩) (fun r21 pl H locs hu21 hP hD hS => ?_)
    obtain ⟨hq21, hO⟩ := hu21
    have hP : va_P g.1 vcl ([] ++ pl) _ := hP
    have hD : va_D _ ([] ++ pl) := hD
    refine W.widen (k := 0) (n := 0) (by omega) (by omega) ?_
    refine lv_if_le (tgt := 40) hx hb dMH_used_25 (by decide) (fun h22 => ?_) (fun h22 => ?_)
    · refine lv_aload_n hx hb dMH_used_40 rfl (lv_at hl 1 rfl) ?_
      refine lv_iload_n hx hb dMH_used_41 rfl (lv_at hl 3 rfl) ?_
      refine mp_i (cx := []) (wr := []) hP hD hS hA [] [] rfl rfl rfl (by decide) (va_runV (As := [.int v]) (rest := []) F (t_MH_high_1 l g _ T xs pl hO hU hc0 h0 v k_h0) (cwV 1 hts (wg_app (wg_c kw_1885 (wg_c kw_1887 (wg_c ks_75 (wg_c kw_13 wg_n)))) kw_1888) rfl rfl rfl (by decide +kernel) ⟨by decide, by decide⟩) (pp_VT (en_ok g) (ci := 12) (kd := (47, 0)) hK hO k_h0 (nxg hc0 k_h0 rfl) (fun _ h9 => ko1 h9) hP hD hS hA hE [] rfl rfl rfl) rfl rfl hl.1 rfl (lv_room (Nat.le_of_ble_eq_true rfl)) dMH_used_42 ⟨by omega, by omega⟩) (fun r22 pl H locs hu22 hP hD hS => ?_)
      obtain ⟨hq22, hO⟩ := hu22
      have hP : va_P g.1 vcl ([] ++ pl) _ := hP
      have hD : va_D _ ([] ++ pl) := hD
      refine W.widen (k := 0) (n := 0) (by omega) (by omega) ?_
      refine lv_iload_n hx hb dMH_used_45 rfl (lv_at hl 0 rfl) ?_
      refine lv_iadd hx hb dMH_used_46 ?_
      refine mi_any (fun z21 => ?_)
      refine lv_iconst (v := nI 1) hx hb dMH_used_47 (by decide) ?_
      refine lv_isub hx hb dMH_used_48 ?_
      refine mi_any (fun z22 => ?_)
      refine lv_iload_n hx hb dMH_used_49 rfl (lv_at hl 0 rfl) ?_
      refine lv_irem hx hb dMH_used_50 (nI_ne0 (by omega) (by omega)) ?_
      refine mi_any (fun z23 => ?_)
      exact mp_iret hx hb hr hlk hP hD hS pl ⟨trivial, hO⟩ [] rfl rfl rfl (by omega) (by omega) dMH_used_51
    · refine lv_aload_n hx hb dMH_used_28 rfl (lv_at hl 1 rfl) ?_
      refine lv_iload_n hx hb dMH_used_29 rfl (lv_at hl 3 rfl) ?_
      refine mp_i (cx := []) (wr := []) hP hD hS hA [] [] rfl rfl rfl (by decide) (va_runV (As := [.int v]) (rest := []) F (t_MH_high_1 l g _ T xs pl hO hU hc0 h0 v k_h0) (cwV 1 hts (wg_app (wg_c kw_1885 (wg_c kw_1887 (wg_c ks_75 (wg_c kw_13 wg_n)))) kw_1888) rfl rfl rfl (by decide +kernel) ⟨by decide, by decide⟩) (pp_VT (en_ok g) (ci := 12) (kd := (47, 0)) hK hO k_h0 (nxg hc0 k_h0 rfl) (fun _ h9 => ko1 h9) hP hD hS hA hE [] rfl rfl rfl) rfl rfl hl.1 rfl (lv_room (Nat.le_of_ble_eq_true rfl)) dMH_used_30 ⟨by omega, by omega⟩) (fun r23 pl H locs hu23 hP hD hS => ?_)
      obtain ⟨hq23, hO⟩ := hu23
      have hP : va_P g.1 vcl ([] ++ pl) _ := hP
      have hD : va_D _ ([] ++ pl) := hD
      refine W.widen (k := 0) (n := 0) (by omega) (by omega) ?_
      refine lv_iconst (v := nI 1) hx hb dMH_used_33 (by decide) ?_
      refine lv_iadd hx hb dMH_used_34 ?_
      refine mi_any (fun z24 => ?_)
      refine lv_iload_n hx hb dMH_used_35 rfl (lv_at hl 0 rfl) ?_
      refine lv_irem hx hb dMH_used_36 (nI_ne0 (by omega) (by omega)) ?_
      refine mi_any (fun z25 => ?_)
      refine lv_goto (tgt := 51) hx hb dMH_used_37 (by decide) ?_
      exact mp_iret hx hb hr hlk hP hD hS pl ⟨trivial, hO⟩ [] rfl rfl rfl (by omega) (by omega) dMH_used_51
  · refine lv_aload_n hx hb dMH_used_14 rfl (lv_at hl 1 rfl) ?_
    refine lv_iload_n hx hb dMH_used_15 rfl (lv_at hl 3 rfl) ?_
    refine mp_i (cx := []) (wr := []) hP hD hS hA [] [] rfl rfl rfl (by decide) (va_runV (As := [.int v]) (rest := []) F (t_MH_high_1 l g _ T xs pl hO hU hc0 h0 v k_h0) (cwV 1 hts (wg_app (wg_c kw_1885 (wg_c kw_1887 (wg_c ks_75 (wg_c kw_13 wg_n)))) kw_1888) rfl rfl rfl (by decide +kernel) ⟨by decide, by decide⟩) (pp_VT (en_ok g) (ci := 12) (kd := (47, 0)) hK hO k_h0 (nxg hc0 k_h0 rfl) (fun _ h9 => ko1 h9) hP hD hS hA hE [] rfl rfl rfl) rfl rfl hl.1 rfl (lv_room (Nat.le_of_ble_eq_true rfl)) dMH_used_16 ⟨by omega, by omega⟩) (fun r24 pl H locs hu24 hP hD hS => ?_)
    obtain ⟨hq24, hO⟩ := hu24
    have hP : va_P g.1 vcl ([] ++ pl) _ := hP
    have hD : va_D _ ([] ++ pl) := hD
    refine W.widen (k := 0) (n := 0) (by omega) (by omega) ?_
    exact mp_iret hx hb hr hlk hP hD hS pl ⟨trivial, hO⟩ [] rfl rfl rfl (by omega) (by omega) dMH_used_19
set_option maxHeartbeats 400000 in
set_option maxRecDepth 100000 in
theorem t_MH_used_2 (l : Launch) (g : Gd) (sz : Nat) (T : Ty) (xs : List Nat) (pl : va_W) (hO : okx g T xs pl) (hU : uni T) (hc0 : clo T xs 0) (h0 : Nat) (hh : Int32) (v : Int32) (k_h0 : T h0 = some (48, 0))  : Met l y_MH_used w_MH_used ({ frames := 1, cells := 0, slots := 0, locals := 22 } : Room) (va_Pc [.ref h0, .int hh, .int v] (pr (en g) g.1 vcl sz ([] ++ pl))) (va_Qi (fun (r : Int32) (u : va_W) => (True) ∧ okx g T xs u) (po g.1 vcl (va_A ([] ++ pl) sz) (fun (u : va_W) => [] ++ u)) (va_A ([] ++ pl) sz)) 0 0 (va_A ([] ++ pl) sz) := by
  refine mc_entry (cc := c_MH_used) (maxL := 4) (ret := (some .int)) (by decide) rfl (Nat.le_of_ble_eq_true rfl) ?_
  intro p e s m args below meth c ls F hr hlk hnm hsz hP hD hE hA hl
  obtain ⟨hx, hb, hml, hown, hts⟩ := id F
  have hK := hE.1
  generalize va_A ([] ++ pl) sz = A at hD hE hA ⊢
  have hS : va_S A s.heap s.heap [] := va_S.rf
  have hl : lv_has ls 4 [(0, .ref h0), (1, .int hh), (2, .int v)] := hl
  refine lv_ldc (v := 8380416) hx hb hown (hts _ (wg_t kw_1884)) dMH_used_0 ?_
  refine mi_as (show (8380416 : Int32) = nI 8380416 by decide) ?_
  refine lv_iconst (v := nI 2) hx hb dMH_used_2 (by decide) ?_
  refine lv_aload_n hx hb dMH_used_3 rfl (lv_at hl 0 rfl) ?_
  refine ty_get (ci := 12) (C := "LatticeKeysModel$Hands") (TT := T_MH) (N := 31) (kd := (48, 0)) hx hb hts (wg_ft i_MH) hown hK hO k_h0 (nxg hc0 k_h0 rfl) hP (fun _ h9 => h9) rfl 28 (by decide) (hts _ (wg_t kw_1460)) (fun _ h9 => h9) (cd := (1, 0, 261888)) rfl dMH_used_4 (fun v21 hv21 => ?_)
  obtain rfl := (show v21 = .int (nI 261888) from hv21)
  refine mi_imul hx hb dMH_used_7 ?_
  refine mi_as (show nI (2 * 261888) = nI 523776 from rfl) ?_
  refine mi_idiv hx hb dMH_used_8 (by omega) (by omega) (by omega) ?_
  refine mi_as (show nI (8380416 / 523776) = nI 16 from rfl) ?_
  refine lv_istore_n (lv' := [(3, .int (nI 16)), (0, .ref h0), (1, .int hh), (2, .int v)]) hx hb dMH_used_9 rfl hl (by decide) rfl (fun ls hl => ?_)
  refine lv_iload_n hx hb dMH_used_10 rfl (lv_at hl 2 rfl) ?_
  refine lv_if_ne (tgt := 20) hx hb dMH_used_11 (by decide) (fun h21 => ?_) (fun h21 => ?_)
  · refine lv_aload_n hx hb dMH_used_20 rfl (lv_at hl 1 rfl) ?_
    refine lv_iload_n hx hb dMH_used_21 rfl (lv_at hl 3 rfl) ?_
    refine mp_i (cx := []) (wr := []) hP hD hS hA [] [] rfl rfl rfl (by decide) (va_runV (As := [.int v]) (rest := []) F (t_MH_low_2 l g _ T xs pl hO hU hc0 h0 v k_h0) (cwV 1 hts (wg_app (wg_c kw_1889 (wg_c kw_1891 (wg_c ks_76 (wg_c kw_13 wg_n)))) kw_1892) rfl rfl rfl (by decide +kernel) ⟨by decide, by decide⟩) (pp_VT (en_ok g) (ci := 12) (kd := (48, 0)) hK hO k_h0 (nxg hc0 k_h0 rfl) (fun _ h9 => ko1 h9) hP hD hS hA hE [] rfl rfl rfl) rfl rfl hl.1 rfl (lv_room (Nat.le_of_ble_eq_true rfl)) dMH_used_22 ⟨by omega, by omega⟩) (fun r21 pl H locs hu21 hP hD hS => ?_)
    obtain ⟨hq21, hO⟩ := hu21
    have hP : va_P g.1 vcl ([] ++ pl) _ := hP
    have hD : va_D _ ([] ++ pl) := hD
    refine W.widen (k := 0) (n := 0) (by omega) (by omega) ?_
    refine lv_if_le (tgt := 40) hx hb dMH_used_25 (by decide) (fun h22 => ?_) (fun h22 => ?_)
    · refine lv_aload_n hx hb dMH_used_40 rfl (lv_at hl 1 rfl) ?_
      refine lv_iload_n hx hb dMH_used_41 rfl (lv_at hl 3 rfl) ?_
      refine mp_i (cx := []) (wr := []) hP hD hS hA [] [] rfl rfl rfl (by decide) (va_runV (As := [.int v]) (rest := []) F (t_MH_high_2 l g _ T xs pl hO hU hc0 h0 v k_h0) (cwV 1 hts (wg_app (wg_c kw_1885 (wg_c kw_1887 (wg_c ks_75 (wg_c kw_13 wg_n)))) kw_1888) rfl rfl rfl (by decide +kernel) ⟨by decide, by decide⟩) (pp_VT (en_ok g) (ci := 12) (kd := (48, 0)) hK hO k_h0 (nxg hc0 k_h0 rfl) (fun _ h9 => ko1 h9) hP hD hS hA hE [] rfl rfl rfl) rfl rfl hl.1 rfl (lv_room (Nat.le_of_ble_eq_true rfl)) dMH_used_42 ⟨by omega, by omega⟩) (fun r22 pl H locs hu22 hP hD hS => ?_)
      obtain ⟨hq22, hO⟩ := hu22
      have hP : va_P g.1 vcl ([] ++ pl) _ := hP
      have hD : va_D _ ([] ++ pl) := hD
      refine W.widen (k := 0) (n := 0) (by omega) (by omega) ?_
      refine lv_iload_n hx hb dMH_used_45 rfl (lv_at hl 0 rfl) ?_
      refine lv_iadd hx hb dMH_used_46 ?_
      refine mi_any (fun z21 => ?_)
      refine lv_iconst (v := nI 1) hx hb dMH_used_47 (by decide) ?_
      refine lv_isub hx hb dMH_used_48 ?_
      refine mi_any (fun z22 => ?_)
      refine lv_iload_n hx hb dMH_used_49 rfl (lv_at hl 0 rfl) ?_
      refine lv_irem hx hb dMH_used_50 (nI_ne0 (by omega) (by omega)) ?_
      refine mi_any (fun z23 => ?_)
      exact mp_iret hx hb hr hlk hP hD hS pl ⟨trivial, hO⟩ [] rfl rfl rfl (by omega) (by omega) dMH_used_51
    · refine lv_aload_n hx hb dMH_used_28 rfl (lv_at hl 1 rfl) ?_
      refine lv_iload_n hx hb dMH_used_29 rfl (lv_at hl 3 rfl) ?_
      refine mp_i (cx := []) (wr := []) hP hD hS hA [] [] rfl rfl rfl (by decide) (va_runV (As := [.int v]) (rest := []) F (t_MH_high_2 l g _ T xs pl hO hU hc0 h0 v k_h0) (cwV 1 hts (wg_app (wg_c kw_1885 (wg_c kw_1887 (wg_c ks_75 (wg_c kw_13 wg_n)))) kw_1888) rfl rfl rfl (by decide +kernel) ⟨by decide, by decide⟩) (pp_VT (en_ok g) (ci := 12) (kd := (48, 0)) hK hO k_h0 (nxg hc0 k_h0 rfl) (fun _ h9 => ko1 h9) hP hD hS hA hE [] rfl rfl rfl) rfl rfl hl.1 rfl (lv_room (Nat.le_of_ble_eq_true rfl)) dMH_used_30 ⟨by omega, by omega⟩) (fun r23 pl H locs hu23 hP hD hS => ?_)
      obtain ⟨hq23, hO⟩ := hu23
      have hP : va_P g.1 vcl ([] ++ pl) _ := hP
      have hD : va_D _ ([] ++ pl) := hD
      refine W.widen (k := 0) (n := 0) (by omega) (by omega) ?_
      refine lv_iconst (v := nI 1) hx hb dMH_used_33 (by decide) ?_
      refine lv_iadd hx hb dMH_used_34 ?_
      refine mi_any (fun z24 => ?_)
      refine lv_iload_n hx hb dMH_used_35 rfl (lv_at hl 0 rfl) ?_
      refine lv_irem hx hb dMH_used_36 (nI_ne0 (by omega) (by omega)) ?_
      refine mi_any (fun z25 => ?_)
      refine lv_goto (tgt := 51) hx hb dMH_used_37 (by decide) ?_
      exact mp_iret hx hb hr hlk hP hD hS pl ⟨trivial, hO⟩ [] rfl rfl rfl (by omega) (by omega) dMH_used_51
  · refine lv_aload_n hx hb dMH_used_14 rfl (lv_at hl 1 rfl) ?_
    refine lv_iload_n hx hb dMH_used_15 rfl (lv_at hl 3 rfl) ?_
    refine mp_i (cx := []) (wr := []) hP hD hS hA [] [] rfl rfl rfl (by decide) (va_runV (As := [.int v]) (rest := []) F (t_MH_high_2 l g _ T xs pl hO hU hc0 h0 v k_h0) (cwV 1 hts (wg_app (wg_c kw_1885 (wg_c kw_1887 (wg_c ks_75 (wg_c kw_13 wg_n)))) kw_1888) rfl rfl rfl (by decide +kernel) ⟨by decide, by decide⟩) (pp_VT (en_ok g) (ci := 12) (kd := (48, 0)) hK hO k_h0 (nxg hc0 k_h0 rfl) (fun _ h9 => ko1 h9) hP hD hS hA hE [] rfl rfl rfl) rfl rfl hl.1 rfl (lv_room (Nat.le_of_ble_eq_true rfl)) dMH_used_16 ⟨by omega, by omega⟩) (fun r24 pl H locs hu24 hP hD hS => ?_)
    obtain ⟨hq24, hO⟩ := hu24
    have hP : va_P g.1 vcl ([] ++ pl) _ := hP
    have hD : va_D _ ([] ++ pl) := hD
    refine W.widen (k := 0) (n := 0) (by omega) (by omega) ?_
    exact mp_iret hx hb hr hlk hP hD hS pl ⟨trivial, hO⟩ [] rfl rfl rfl (by omega) (by omega) dMH_used_19
set_option maxHeartbeats 400000 in
set_option maxRecDepth 100000 in
theorem t_MH_rowBy_0 (l : Launch) (g : Gd) (sz : Nat) (T : Ty) (xs : List Nat) (pl : va_W) (hO : okx g T xs pl) (hU : uni T) (hc0 : clo T xs 0) (h0 to rw : Nat) (k_h0 : T h0 = some (46, 0)) (k_to : T to = some (0, 256)) (h1 : rw < 4)  : Met l y_MH_rowBy w_MH_rowBy ({ frames := 1, cells := 0, slots := 0, locals := 28 } : Room) (va_Pc [.ref h0, .int (nI rw), .ref to] (pr (en g) g.1 vcl sz ([] ++ pl))) (va_Qv (fun (u : va_W) => (True) ∧ okx g T xs u) (po g.1 vcl (va_A ([] ++ pl) sz) (fun (u : va_W) => [] ++ u)) (va_A ([] ++ pl) sz)) 0 0 (va_A ([] ++ pl) sz) := by
  refine mc_entry (cc := c_MH_rowBy) (maxL := 7) (ret := none) (by decide) rfl (Nat.le_of_ble_eq_true rfl) ?_
  intro p e s m args below meth c ls F hr hlk hnm hsz hP hD hE hA hl
  obtain ⟨hx, hb, hml, hown, hts⟩ := id F
  have hK := hE.1
  generalize va_A ([] ++ pl) sz = A at hD hE hA ⊢
  have hS : va_S A s.heap s.heap [] := va_S.rf
  have hl : lv_has ls 7 [(0, .ref h0), (1, .int (nI rw)), (2, .ref to)] := hl
  refine lv_iconst (v := nI 0) hx hb dMH_rowBy_0 (by decide) ?_
  refine lv_istore_n (lv' := [(3, .int (nI 0)), (0, .ref h0), (1, .int (nI rw)), (2, .ref to)]) hx hb dMH_rowBy_1 rfl hl (by decide) rfl (fun ls hl => ?_)
  have lp21 : ∀ (n21 : Nat) (i21 : Nat) (pl : va_W) (ls : Array Slot) (H : Heap) (locs : List Loc), n21 + i21 = 256 → lv_has ls 7 [(3, .int (nI i21)), (0, .ref h0), (1, .int (nI rw)), (2, .ref to)] → okx g T xs pl → va_P g.1 vcl ([] ++ pl) H → va_D A ([] ++ pl) → va_S A s.heap H locs → W p l e ({ frames := 1, cells := 0, slots := 0, locals := 28 } : Room) s m args below meth c H locs 0 0 (MQ below (va_Qv (fun (u : va_W) => (True) ∧ okx g T xs u) (po g.1 vcl A (fun (u : va_W) => [] ++ u)) A) args s 0 0 A) (F0 m 2 ls []) := by
    intro n21
    induction n21 with
    | zero =>
      intro i21 pl ls H locs hm21  hl hO hP hD hS
      refine lv_iload_n hx hb dMH_rowBy_2 rfl (lv_at hl 0 rfl) ?_
      refine lv_sipush (v := nI 256) hx hb dMH_rowBy_3 (by decide) ?_
      refine mi_ge (tgt := 84) hx hb dMH_rowBy_6 (by decide) (by omega) (by omega) (fun h21 => ?_) (fun h21 => absurd h21 (by omega))
      refine lv_aload_n hx hb dMH_rowBy_84 rfl (lv_at hl 1 rfl) ?_
      refine ty_get (ci := 12) (C := "LatticeKeysModel$Hands") (TT := T_MH) (N := 31) (kd := (46, 0)) hx hb hts (wg_ft i_MH) hown hK hO k_h0 (nxg hc0 k_h0 rfl) hP (fun _ h9 => h9) rfl 1 (by decide) (hts _ (wg_t kw_1433)) (fun _ h9 => h9) (cd := (3, 22, 0)) rfl dMH_rowBy_85 (fun v21 hv21 => ?_)
      obtain ⟨r21, rfl, kr21⟩ := (show ∃ r : Nat, v21 = .ref r ∧ T r = some (22, 0) from hv21)
      refine lv_aload_n hx hb dMH_rowBy_88 rfl (lv_at hl 1 rfl) ?_
      refine ty_get (ci := 12) (C := "LatticeKeysModel$Hands") (TT := T_MH) (N := 31) (kd := (46, 0)) hx hb hts (wg_ft i_MH) hown hK hO k_h0 (nxg hc0 k_h0 rfl) hP (fun _ h9 => h9) rfl 14 (by decide) (hts _ (wg_t kw_1446)) (fun _ h9 => h9) (cd := (3, 0, 256)) rfl dMH_rowBy_89 (fun v22 hv22 => ?_)
      obtain ⟨r22, rfl, kr22⟩ := (show ∃ r : Nat, v22 = .ref r ∧ T r = some (0, 256) from hv22)
      refine lv_aload_n hx hb dMH_rowBy_92 rfl (lv_at hl 3 rfl) ?_
      refine lv_iconst (v := nI 1) hx hb dMH_rowBy_93 (by decide) ?_
      refine lv_iconst (v := nI 0) hx hb dMH_rowBy_94 (by decide) ?_
      refine mp_v (cx := []) (wr := []) hP hD hS hA [] [] rfl rfl rfl (by decide) (va_runV (As := [.ref r22, .ref to, .int (nI 1), .int (nI 0)]) (rest := []) F (t_MR_back_22_0 l g _ T xs pl hO hU hc0 r21 r22 to kr21 kr22 k_to) (cwV 4 hts (wg_app (wg_c kw_1739 (wg_c kw_1740 (wg_c kw_1741 (wg_c kw_12 wg_n)))) kw_1742) rfl rfl rfl (by decide +kernel) ⟨by decide, by decide⟩) (pp_VT (en_ok g) (ci := 10) (kd := (22, 0)) hK hO kr21 (nxg hc0 kr21 rfl) (fun _ h9 => ko1 h9) hP hD hS hA hE [] rfl rfl rfl) rfl rfl hl.1 rfl (lv_room (Nat.le_of_ble_eq_true rfl)) dMH_rowBy_95 ⟨by omega, by omega⟩) (fun  pl H locs hu21 hP hD hS => ?_)
      obtain ⟨hq21, hO⟩ := hu21
      have hP : va_P g.1 vcl ([] ++ pl) _ := hP
      have hD : va_D _ ([] ++ pl) := hD
      refine W.widen (k := 0) (n := 0) (by omega) (by omega) ?_
      exact mp_vret hx hb hr hlk hP hD hS pl ⟨trivial, hO⟩ [] rfl rfl rfl (by omega) (by omega) dMH_rowBy_98
    | succ n21 ih21 =>
      intro i21 pl ls H locs hm21  hl hO hP hD hS
      refine lv_iload_n hx hb dMH_rowBy_2 rfl (lv_at hl 0 rfl) ?_
      refine lv_sipush (v := nI 256) hx hb dMH_rowBy_3 (by decide) ?_
      refine mi_ge (tgt := 84) hx hb dMH_rowBy_6 (by decide) (by omega) (by omega) (fun h22 => absurd h22 (by omega)) (fun h22 => ?_)
      refine lv_lconst (v := 0) hx hb dMH_rowBy_9 (by decide) ?_
      refine lv_lstore (lv' := [(4, .long 0), (3, .int (nI i21)), (0, .ref h0), (1, .int (nI rw)), (2, .ref to)]) hx hb dMH_rowBy_10 hl (by decide) rfl (fun ls hl => ?_)
      refine lv_iconst (v := nI 0) hx hb dMH_rowBy_12 (by decide) ?_
      refine lv_istore (lv' := [(6, .int (nI 0)), (4, .long 0), (3, .int (nI i21)), (0, .ref h0), (1, .int (nI rw)), (2, .ref to)]) hx hb dMH_rowBy_13 hl (by decide) rfl (fun ls hl => ?_)
      have lp22 : ∀ (n22 : Nat) (i22 : Nat) (y21 : Int64) (pl : va_W) (ls : Array Slot) (H : Heap) (locs : List Loc), n22 + i22 = 4 → lv_has ls 7 [(6, .int (nI i22)), (4, .long y21), (3, .int (nI i21)), (0, .ref h0), (1, .int (nI rw)), (2, .ref to)] → okx g T xs pl → va_P g.1 vcl ([] ++ pl) H → va_D A ([] ++ pl) → va_S A s.heap H locs → W p l e ({ frames := 1, cells := 0, slots := 0, locals := 28 } : Room) s m args below meth c H locs 0 0 (MQ below (va_Qv (fun (u : va_W) => (True) ∧ okx g T xs u) (po g.1 vcl A (fun (u : va_W) => [] ++ u)) A) args s 0 0 A) (F0 m 15 ls []) := by
        intro n22
        induction n22 with
        | zero =>
          intro i22 y21 pl ls H locs hm22  hl hO hP hD hS
          refine lv_iload hx hb dMH_rowBy_15 (lv_at hl 0 rfl) ?_
          refine lv_aload_n hx hb dMH_rowBy_17 rfl (lv_at hl 3 rfl) ?_
          refine ty_get (ci := 12) (C := "LatticeKeysModel$Hands") (TT := T_MH) (N := 31) (kd := (46, 0)) hx hb hts (wg_ft i_MH) hown hK hO k_h0 (nxg hc0 k_h0 rfl) hP (fun _ h9 => h9) rfl 25 (by decide) (hts _ (wg_t kw_1457)) (fun _ h9 => h9) (cd := (1, 0, 4)) rfl dMH_rowBy_18 (fun v23 hv23 => ?_)
          obtain rfl := (show v23 = .int (nI 4) from hv23)
          refine mi_ge (tgt := 65) hx hb dMH_rowBy_21 (by decide) (by omega) (by omega) (fun h23 => ?_) (fun h23 => absurd h23 (by omega))
          refine lv_aload_n hx hb dMH_rowBy_65 rfl (lv_at hl 3 rfl) ?_
          refine ty_get (ci := 12) (C := "LatticeKeysModel$Hands") (TT := T_MH) (N := 31) (kd := (46, 0)) hx hb hts (wg_ft i_MH) hown hK hO k_h0 (nxg hc0 k_h0 rfl) hP (fun _ h9 => h9) rfl 14 (by decide) (hts _ (wg_t kw_1446)) (fun _ h9 => h9) (cd := (3, 0, 256)) rfl dMH_rowBy_66 (fun v24 hv24 => ?_)
          obtain ⟨r23, rfl, kr23⟩ := (show ∃ r : Nat, v24 = .ref r ∧ T r = some (0, 256) from hv24)
          refine lv_iload_n hx hb dMH_rowBy_69 rfl (lv_at hl 2 rfl) ?_
          refine lv_lload hx hb dMH_rowBy_70 (lv_at hl 1 rfl) ?_
          refine lv_ldc2 (v := (8380417)) hx hb hown (hts _ (wg_t kw_1738)) dMH_rowBy_72 ?_
          refine lv_lrem hx hb dMH_rowBy_75 (by decide) ?_
          refine ml_any (fun y22 => ?_)
          refine lv_l2i hx hb dMH_rowBy_76 rfl ?_
          refine mi_any (fun z21 => ?_)
          refine ty_iast hx hb hK hO kr23 (nxg hc0 kr23 rfl) hP hD hS (vp_in_nI (by omega) (by decide)) dMH_rowBy_77 (fun pl H locs hO hP hD hS => ?_)
          refine mi_iinc (k := 2) (x := i21) (d := 1) (y := i21 + 1) (lv' := [(3, .int (nI (i21 + 1))), (6, .int (nI i22)), (4, .long y21), (0, .ref h0), (1, .int (nI rw)), (2, .ref to)]) hx hb dMH_rowBy_78 hl rfl (by decide) rfl (by decide) rfl (fun ls hl => ?_)
          refine lv_goto (tgt := 2) hx hb dMH_rowBy_81 (by decide) ?_
          exact ih21 (i21 + 1) pl ls H locs (by omega) (lv_sub hl [0, 3, 4, 5] rfl) hO hP hD hS
        | succ n22 ih22 =>
          intro i22 y21 pl ls H locs hm22  hl hO hP hD hS
          refine lv_iload hx hb dMH_rowBy_15 (lv_at hl 0 rfl) ?_
          refine lv_aload_n hx hb dMH_rowBy_17 rfl (lv_at hl 3 rfl) ?_
          refine ty_get (ci := 12) (C := "LatticeKeysModel$Hands") (TT := T_MH) (N := 31) (kd := (46, 0)) hx hb hts (wg_ft i_MH) hown hK hO k_h0 (nxg hc0 k_h0 rfl) hP (fun _ h9 => h9) rfl 25 (by decide) (hts _ (wg_t kw_1457)) (fun _ h9 => h9) (cd := (1, 0, 4)) rfl dMH_rowBy_18 (fun v25 hv25 => ?_)
          obtain rfl := (show v25 = .int (nI 4) from hv25)
          refine mi_ge (tgt := 65) hx hb dMH_rowBy_21 (by decide) (by omega) (by omega) (fun h24 => absurd h24 (by omega)) (fun h24 => ?_)
          refine lv_lload hx hb dMH_rowBy_24 (lv_at hl 1 rfl) ?_
          refine lv_aload_n hx hb dMH_rowBy_26 rfl (lv_at hl 3 rfl) ?_
          refine ty_get (ci := 12) (C := "LatticeKeysModel$Hands") (TT := T_MH) (N := 31) (kd := (46, 0)) hx hb hts (wg_ft i_MH) hown hK hO k_h0 (nxg hc0 k_h0 rfl) hP (fun _ h9 => h9) rfl 2 (by decide) (hts _ (wg_t kw_1434)) (fun _ h9 => h9) (cd := (3, 3, 64)) rfl dMH_rowBy_27 (fun v26 hv26 => ?_)
          obtain ⟨r24, rfl, kr24⟩ := (show ∃ r : Nat, v26 = .ref r ∧ T r = some (3, 64) from hv26)
          refine lv_bipush (v := nI 8) hx hb dMH_rowBy_30 (by decide) ?_
          refine lv_iload_n hx hb dMH_rowBy_32 rfl (lv_at hl 4 rfl) ?_
          refine mi_imul hx hb dMH_rowBy_33 ?_
          refine lv_iload hx hb dMH_rowBy_34 (lv_at hl 0 rfl) ?_
          refine mi_iadd hx hb dMH_rowBy_36 ?_
          refine ty_aald3 hx hb hK hO kr24 (nxg hc0 kr24 rfl) hP (by omega) (by decide) dMH_rowBy_37 (fun r25 kr25 => ?_)
          refine lv_iload_n hx hb dMH_rowBy_38 rfl (lv_at hl 2 rfl) ?_
          refine ty_iald hx hb hK hO kr25 (nxg hc0 kr25 rfl) hP (vp_in_nI (by omega) (by decide)) dMH_rowBy_39 (fun z22 => ?_)
          refine lv_i2l hx hb dMH_rowBy_40 rfl ?_
          refine ml_any (fun y23 => ?_)
          refine lv_aload_n hx hb dMH_rowBy_41 rfl (lv_at hl 3 rfl) ?_
          refine ty_get (ci := 12) (C := "LatticeKeysModel$Hands") (TT := T_MH) (N := 31) (kd := (46, 0)) hx hb hts (wg_ft i_MH) hown hK hO k_h0 (nxg hc0 k_h0 rfl) hP (fun _ h9 => h9) rfl 9 (by decide) (hts _ (wg_t kw_1441)) (fun _ h9 => h9) (cd := (3, 3, 7)) rfl dMH_rowBy_42 (fun v27 hv27 => ?_)
          obtain ⟨r26, rfl, kr26⟩ := (show ∃ r : Nat, v27 = .ref r ∧ T r = some (3, 7) from hv27)
          refine lv_iload hx hb dMH_rowBy_45 (lv_at hl 0 rfl) ?_
          refine ty_aald3 hx hb hK hO kr26 (nxg hc0 kr26 rfl) hP (by omega) (by decide) dMH_rowBy_47 (fun r27 kr27 => ?_)
          refine lv_iload_n hx hb dMH_rowBy_48 rfl (lv_at hl 2 rfl) ?_
          refine ty_iald hx hb hK hO kr27 (nxg hc0 kr27 rfl) hP (vp_in_nI (by omega) (by decide)) dMH_rowBy_49 (fun z23 => ?_)
          refine lv_i2l hx hb dMH_rowBy_50 rfl ?_
          refine ml_any (fun y24 => ?_)
          refine lv_lmul hx hb dMH_rowBy_51 ?_
          refine ml_any (fun y25 => ?_)
          refine lv_ldc2 (v := (8380417)) hx hb hown (hts _ (wg_t kw_1738)) dMH_rowBy_52 ?_
          refine lv_lrem hx hb dMH_rowBy_55 (by decide) ?_
          refine ml_any (fun y26 => ?_)
          refine lv_ladd hx hb dMH_rowBy_56 ?_
          refine ml_any (fun y27 => ?_)
          refine lv_lstore (lv' := [(4, .long y27), (6, .int (nI i22)), (3, .int (nI i21)), (0, .ref h0), (1, .int (nI rw)), (2, .ref to)]) hx hb dMH_rowBy_57 hl (by decide) rfl (fun ls hl => ?_)
          refine mi_iinc (k := 1) (x := i22) (d := 1) (y := i22 + 1) (lv' := [(6, .int (nI (i22 + 1))), (4, .long y27), (3, .int (nI i21)), (0, .ref h0), (1, .int (nI rw)), (2, .ref to)]) hx hb dMH_rowBy_59 hl rfl (by decide) rfl (by decide) rfl (fun ls hl => ?_)
          refine lv_goto (tgt := 15) hx hb dMH_rowBy_62 (by decide) ?_
          exact ih22 (i22 + 1) y27 pl ls H locs (by omega) (lv_sub hl [0, 1, 2, 3, 4, 5] rfl) hO hP hD hS
      exact lp22 4 0 0 pl ls _ _ (by omega) (lv_sub hl [0, 1, 2, 3, 4, 5] rfl) hO hP hD hS
  exact lp21 256 0 pl ls _ _ (by omega) (lv_sub hl [0, 1, 2, 3] rfl) hO hP hD hS
set_option maxHeartbeats 400000 in
set_option maxRecDepth 100000 in
theorem t_MH_rowBy_1 (l : Launch) (g : Gd) (sz : Nat) (T : Ty) (xs : List Nat) (pl : va_W) (hO : okx g T xs pl) (hU : uni T) (hc0 : clo T xs 0) (h0 to rw : Nat) (k_h0 : T h0 = some (47, 0)) (k_to : T to = some (0, 256)) (h1 : rw < 6)  : Met l y_MH_rowBy w_MH_rowBy ({ frames := 1, cells := 0, slots := 0, locals := 28 } : Room) (va_Pc [.ref h0, .int (nI rw), .ref to] (pr (en g) g.1 vcl sz ([] ++ pl))) (va_Qv (fun (u : va_W) => (True) ∧ okx g T xs u) (po g.1 vcl (va_A ([] ++ pl) sz) (fun (u : va_W) => [] ++ u)) (va_A ([] ++ pl) sz)) 0 0 (va_A ([] ++ pl) sz) := by
  refine mc_entry (cc := c_MH_rowBy) (maxL := 7) (ret := none) (by decide) rfl (Nat.le_of_ble_eq_true rfl) ?_
  intro p e s m args below meth c ls F hr hlk hnm hsz hP hD hE hA hl
  obtain ⟨hx, hb, hml, hown, hts⟩ := id F
  have hK := hE.1
  generalize va_A ([] ++ pl) sz = A at hD hE hA ⊢
  have hS : va_S A s.heap s.heap [] := va_S.rf
  have hl : lv_has ls 7 [(0, .ref h0), (1, .int (nI rw)), (2, .ref to)] := hl
  refine lv_iconst (v := nI 0) hx hb dMH_rowBy_0 (by decide) ?_
  refine lv_istore_n (lv' := [(3, .int (nI 0)), (0, .ref h0), (1, .int (nI rw)), (2, .ref to)]) hx hb dMH_rowBy_1 rfl hl (by decide) rfl (fun ls hl => ?_)
  have lp21 : ∀ (n21 : Nat) (i21 : Nat) (pl : va_W) (ls : Array Slot) (H : Heap) (locs : List Loc), n21 + i21 = 256 → lv_has ls 7 [(3, .int (nI i21)), (0, .ref h0), (1, .int (nI rw)), (2, .ref to)] → okx g T xs pl → va_P g.1 vcl ([] ++ pl) H → va_D A ([] ++ pl) → va_S A s.heap H locs → W p l e ({ frames := 1, cells := 0, slots := 0, locals := 28 } : Room) s m args below meth c H locs 0 0 (MQ below (va_Qv (fun (u : va_W) => (True) ∧ okx g T xs u) (po g.1 vcl A (fun (u : va_W) => [] ++ u)) A) args s 0 0 A) (F0 m 2 ls []) := by
    intro n21
    induction n21 with
    | zero =>
      intro i21 pl ls H locs hm21  hl hO hP hD hS
      refine lv_iload_n hx hb dMH_rowBy_2 rfl (lv_at hl 0 rfl) ?_
      refine lv_sipush (v := nI 256) hx hb dMH_rowBy_3 (by decide) ?_
      refine mi_ge (tgt := 84) hx hb dMH_rowBy_6 (by decide) (by omega) (by omega) (fun h21 => ?_) (fun h21 => absurd h21 (by omega))
      refine lv_aload_n hx hb dMH_rowBy_84 rfl (lv_at hl 1 rfl) ?_
      refine ty_get (ci := 12) (C := "LatticeKeysModel$Hands") (TT := T_MH) (N := 31) (kd := (47, 0)) hx hb hts (wg_ft i_MH) hown hK hO k_h0 (nxg hc0 k_h0 rfl) hP (fun _ h9 => h9) rfl 1 (by decide) (hts _ (wg_t kw_1433)) (fun _ h9 => h9) (cd := (3, 22, 0)) rfl dMH_rowBy_85 (fun v21 hv21 => ?_)
      obtain ⟨r21, rfl, kr21⟩ := (show ∃ r : Nat, v21 = .ref r ∧ T r = some (22, 0) from hv21)
      refine lv_aload_n hx hb dMH_rowBy_88 rfl (lv_at hl 1 rfl) ?_
      refine ty_get (ci := 12) (C := "LatticeKeysModel$Hands") (TT := T_MH) (N := 31) (kd := (47, 0)) hx hb hts (wg_ft i_MH) hown hK hO k_h0 (nxg hc0 k_h0 rfl) hP (fun _ h9 => h9) rfl 14 (by decide) (hts _ (wg_t kw_1446)) (fun _ h9 => h9) (cd := (3, 0, 256)) rfl dMH_rowBy_89 (fun v22 hv22 => ?_)
      obtain ⟨r22, rfl, kr22⟩ := (show ∃ r : Nat, v22 = .ref r ∧ T r = some (0, 256) from hv22)
      refine lv_aload_n hx hb dMH_rowBy_92 rfl (lv_at hl 3 rfl) ?_
      refine lv_iconst (v := nI 1) hx hb dMH_rowBy_93 (by decide) ?_
      refine lv_iconst (v := nI 0) hx hb dMH_rowBy_94 (by decide) ?_
      refine mp_v (cx := []) (wr := []) hP hD hS hA [] [] rfl rfl rfl (by decide) (va_runV (As := [.ref r22, .ref to, .int (nI 1), .int (nI 0)]) (rest := []) F (t_MR_back_22_0 l g _ T xs pl hO hU hc0 r21 r22 to kr21 kr22 k_to) (cwV 4 hts (wg_app (wg_c kw_1739 (wg_c kw_1740 (wg_c kw_1741 (wg_c kw_12 wg_n)))) kw_1742) rfl rfl rfl (by decide +kernel) ⟨by decide, by decide⟩) (pp_VT (en_ok g) (ci := 10) (kd := (22, 0)) hK hO kr21 (nxg hc0 kr21 rfl) (fun _ h9 => ko1 h9) hP hD hS hA hE [] rfl rfl rfl) rfl rfl hl.1 rfl (lv_room (Nat.le_of_ble_eq_true rfl)) dMH_rowBy_95 ⟨by omega, by omega⟩) (fun  pl H locs hu21 hP hD hS => ?_)
      obtain ⟨hq21, hO⟩ := hu21
      have hP : va_P g.1 vcl ([] ++ pl) _ := hP
      have hD : va_D _ ([] ++ pl) := hD
      refine W.widen (k := 0) (n := 0) (by omega) (by omega) ?_
      exact mp_vret hx hb hr hlk hP hD hS pl ⟨trivial, hO⟩ [] rfl rfl rfl (by omega) (by omega) dMH_rowBy_98
    | succ n21 ih21 =>
      intro i21 pl ls H locs hm21  hl hO hP hD hS
      refine lv_iload_n hx hb dMH_rowBy_2 rfl (lv_at hl 0 rfl) ?_
      refine lv_sipush (v := nI 256) hx hb dMH_rowBy_3 (by decide) ?_
      refine mi_ge (tgt := 84) hx hb dMH_rowBy_6 (by decide) (by omega) (by omega) (fun h22 => absurd h22 (by omega)) (fun h22 => ?_)
      refine lv_lconst (v := 0) hx hb dMH_rowBy_9 (by decide) ?_
      refine lv_lstore (lv' := [(4, .long 0), (3, .int (nI i21)), (0, .ref h0), (1, .int (nI rw)), (2, .ref to)]) hx hb dMH_rowBy_10 hl (by decide) rfl (fun ls hl => ?_)
      refine lv_iconst (v := nI 0) hx hb dMH_rowBy_12 (by decide) ?_
      refine lv_istore (lv' := [(6, .int (nI 0)), (4, .long 0), (3, .int (nI i21)), (0, .ref h0), (1, .int (nI rw)), (2, .ref to)]) hx hb dMH_rowBy_13 hl (by decide) rfl (fun ls hl => ?_)
      have lp22 : ∀ (n22 : Nat) (i22 : Nat) (y21 : Int64) (pl : va_W) (ls : Array Slot) (H : Heap) (locs : List Loc), n22 + i22 = 5 → lv_has ls 7 [(6, .int (nI i22)), (4, .long y21), (3, .int (nI i21)), (0, .ref h0), (1, .int (nI rw)), (2, .ref to)] → okx g T xs pl → va_P g.1 vcl ([] ++ pl) H → va_D A ([] ++ pl) → va_S A s.heap H locs → W p l e ({ frames := 1, cells := 0, slots := 0, locals := 28 } : Room) s m args below meth c H locs 0 0 (MQ below (va_Qv (fun (u : va_W) => (True) ∧ okx g T xs u) (po g.1 vcl A (fun (u : va_W) => [] ++ u)) A) args s 0 0 A) (F0 m 15 ls []) := by
        intro n22
        induction n22 with
        | zero =>
          intro i22 y21 pl ls H locs hm22  hl hO hP hD hS
          refine lv_iload hx hb dMH_rowBy_15 (lv_at hl 0 rfl) ?_
          refine lv_aload_n hx hb dMH_rowBy_17 rfl (lv_at hl 3 rfl) ?_
          refine ty_get (ci := 12) (C := "LatticeKeysModel$Hands") (TT := T_MH) (N := 31) (kd := (47, 0)) hx hb hts (wg_ft i_MH) hown hK hO k_h0 (nxg hc0 k_h0 rfl) hP (fun _ h9 => h9) rfl 25 (by decide) (hts _ (wg_t kw_1457)) (fun _ h9 => h9) (cd := (1, 0, 5)) rfl dMH_rowBy_18 (fun v23 hv23 => ?_)
          obtain rfl := (show v23 = .int (nI 5) from hv23)
          refine mi_ge (tgt := 65) hx hb dMH_rowBy_21 (by decide) (by omega) (by omega) (fun h23 => ?_) (fun h23 => absurd h23 (by omega))
          refine lv_aload_n hx hb dMH_rowBy_65 rfl (lv_at hl 3 rfl) ?_
          refine ty_get (ci := 12) (C := "LatticeKeysModel$Hands") (TT := T_MH) (N := 31) (kd := (47, 0)) hx hb hts (wg_ft i_MH) hown hK hO k_h0 (nxg hc0 k_h0 rfl) hP (fun _ h9 => h9) rfl 14 (by decide) (hts _ (wg_t kw_1446)) (fun _ h9 => h9) (cd := (3, 0, 256)) rfl dMH_rowBy_66 (fun v24 hv24 => ?_)
          obtain ⟨r23, rfl, kr23⟩ := (show ∃ r : Nat, v24 = .ref r ∧ T r = some (0, 256) from hv24)
          refine lv_iload_n hx hb dMH_rowBy_69 rfl (lv_at hl 2 rfl) ?_
          refine lv_lload hx hb dMH_rowBy_70 (lv_at hl 1 rfl) ?_
          refine lv_ldc2 (v := (8380417)) hx hb hown (hts _ (wg_t kw_1738)) dMH_rowBy_72 ?_
          refine lv_lrem hx hb dMH_rowBy_75 (by decide) ?_
          refine ml_any (fun y22 => ?_)
          refine lv_l2i hx hb dMH_rowBy_76 rfl ?_
          refine mi_any (fun z21 => ?_)
          refine ty_iast hx hb hK hO kr23 (nxg hc0 kr23 rfl) hP hD hS (vp_in_nI (by omega) (by decide)) dMH_rowBy_77 (fun pl H locs hO hP hD hS => ?_)
          refine mi_iinc (k := 2) (x := i21) (d := 1) (y := i21 + 1) (lv' := [(3, .int (nI (i21 + 1))), (6, .int (nI i22)), (4, .long y21), (0, .ref h0), (1, .int (nI rw)), (2, .ref to)]) hx hb dMH_rowBy_78 hl rfl (by decide) rfl (by decide) rfl (fun ls hl => ?_)
          refine lv_goto (tgt := 2) hx hb dMH_rowBy_81 (by decide) ?_
          exact ih21 (i21 + 1) pl ls H locs (by omega) (lv_sub hl [0, 3, 4, 5] rfl) hO hP hD hS
        | succ n22 ih22 =>
          intro i22 y21 pl ls H locs hm22  hl hO hP hD hS
          refine lv_iload hx hb dMH_rowBy_15 (lv_at hl 0 rfl) ?_
          refine lv_aload_n hx hb dMH_rowBy_17 rfl (lv_at hl 3 rfl) ?_
          refine ty_get (ci := 12) (C := "LatticeKeysModel$Hands") (TT := T_MH) (N := 31) (kd := (47, 0)) hx hb hts (wg_ft i_MH) hown hK hO k_h0 (nxg hc0 k_h0 rfl) hP (fun _ h9 => h9) rfl 25 (by decide) (hts _ (wg_t kw_1457)) (fun _ h9 => h9) (cd := (1, 0, 5)) rfl dMH_rowBy_18 (fun v25 hv25 => ?_)
          obtain rfl := (show v25 = .int (nI 5) from hv25)
          refine mi_ge (tgt := 65) hx hb dMH_rowBy_21 (by decide) (by omega) (by omega) (fun h24 => absurd h24 (by omega)) (fun h24 => ?_)
          refine lv_lload hx hb dMH_rowBy_24 (lv_at hl 1 rfl) ?_
          refine lv_aload_n hx hb dMH_rowBy_26 rfl (lv_at hl 3 rfl) ?_
          refine ty_get (ci := 12) (C := "LatticeKeysModel$Hands") (TT := T_MH) (N := 31) (kd := (47, 0)) hx hb hts (wg_ft i_MH) hown hK hO k_h0 (nxg hc0 k_h0 rfl) hP (fun _ h9 => h9) rfl 2 (by decide) (hts _ (wg_t kw_1434)) (fun _ h9 => h9) (cd := (3, 3, 64)) rfl dMH_rowBy_27 (fun v26 hv26 => ?_)
          obtain ⟨r24, rfl, kr24⟩ := (show ∃ r : Nat, v26 = .ref r ∧ T r = some (3, 64) from hv26)
          refine lv_bipush (v := nI 8) hx hb dMH_rowBy_30 (by decide) ?_
          refine lv_iload_n hx hb dMH_rowBy_32 rfl (lv_at hl 4 rfl) ?_
          refine mi_imul hx hb dMH_rowBy_33 ?_
          refine lv_iload hx hb dMH_rowBy_34 (lv_at hl 0 rfl) ?_
          refine mi_iadd hx hb dMH_rowBy_36 ?_
          refine ty_aald3 hx hb hK hO kr24 (nxg hc0 kr24 rfl) hP (by omega) (by decide) dMH_rowBy_37 (fun r25 kr25 => ?_)
          refine lv_iload_n hx hb dMH_rowBy_38 rfl (lv_at hl 2 rfl) ?_
          refine ty_iald hx hb hK hO kr25 (nxg hc0 kr25 rfl) hP (vp_in_nI (by omega) (by decide)) dMH_rowBy_39 (fun z22 => ?_)
          refine lv_i2l hx hb dMH_rowBy_40 rfl ?_
          refine ml_any (fun y23 => ?_)
          refine lv_aload_n hx hb dMH_rowBy_41 rfl (lv_at hl 3 rfl) ?_
          refine ty_get (ci := 12) (C := "LatticeKeysModel$Hands") (TT := T_MH) (N := 31) (kd := (47, 0)) hx hb hts (wg_ft i_MH) hown hK hO k_h0 (nxg hc0 k_h0 rfl) hP (fun _ h9 => h9) rfl 9 (by decide) (hts _ (wg_t kw_1441)) (fun _ h9 => h9) (cd := (3, 3, 7)) rfl dMH_rowBy_42 (fun v27 hv27 => ?_)
          obtain ⟨r26, rfl, kr26⟩ := (show ∃ r : Nat, v27 = .ref r ∧ T r = some (3, 7) from hv27)
          refine lv_iload hx hb dMH_rowBy_45 (lv_at hl 0 rfl) ?_
          refine ty_aald3 hx hb hK hO kr26 (nxg hc0 kr26 rfl) hP (by omega) (by decide) dMH_rowBy_47 (fun r27 kr27 => ?_)
          refine lv_iload_n hx hb dMH_rowBy_48 rfl (lv_at hl 2 rfl) ?_
          refine ty_iald hx hb hK hO kr27 (nxg hc0 kr27 rfl) hP (vp_in_nI (by omega) (by decide)) dMH_rowBy_49 (fun z23 => ?_)
          refine lv_i2l hx hb dMH_rowBy_50 rfl ?_
          refine ml_any (fun y24 => ?_)
          refine lv_lmul hx hb dMH_rowBy_51 ?_
          refine ml_any (fun y25 => ?_)
          refine lv_ldc2 (v := (8380417)) hx hb hown (hts _ (wg_t kw_1738)) dMH_rowBy_52 ?_
          refine lv_lrem hx hb dMH_rowBy_55 (by decide) ?_
          refine ml_any (fun y26 => ?_)
          refine lv_ladd hx hb dMH_rowBy_56 ?_
          refine ml_any (fun y27 => ?_)
          refine lv_lstore (lv' := [(4, .long y27), (6, .int (nI i22)), (3, .int (nI i21)), (0, .ref h0), (1, .int (nI rw)), (2, .ref to)]) hx hb dMH_rowBy_57 hl (by decide) rfl (fun ls hl => ?_)
          refine mi_iinc (k := 1) (x := i22) (d := 1) (y := i22 + 1) (lv' := [(6, .int (nI (i22 + 1))), (4, .long y27), (3, .int (nI i21)), (0, .ref h0), (1, .int (nI rw)), (2, .ref to)]) hx hb dMH_rowBy_59 hl rfl (by decide) rfl (by decide) rfl (fun ls hl => ?_)
          refine lv_goto (tgt := 15) hx hb dMH_rowBy_62 (by decide) ?_
          exact ih22 (i22 + 1) y27 pl ls H locs (by omega) (lv_sub hl [0, 1, 2, 3, 4, 5] rfl) hO hP hD hS
      exact lp22 5 0 0 pl ls _ _ (by omega) (lv_sub hl [0, 1, 2, 3, 4, 5] rfl) hO hP hD hS
  exact lp21 256 0 pl ls _ _ (by omega) (lv_sub hl [0, 1, 2, 3] rfl) hO hP hD hS
set_option maxHeartbeats 400000 in
set_option maxRecDepth 100000 in
theorem t_MH_rowBy_2 (l : Launch) (g : Gd) (sz : Nat) (T : Ty) (xs : List Nat) (pl : va_W) (hO : okx g T xs pl) (hU : uni T) (hc0 : clo T xs 0) (h0 to rw : Nat) (k_h0 : T h0 = some (48, 0)) (k_to : T to = some (0, 256)) (h1 : rw < 8)  : Met l y_MH_rowBy w_MH_rowBy ({ frames := 1, cells := 0, slots := 0, locals := 28 } : Room) (va_Pc [.ref h0, .int (nI rw), .ref to] (pr (en g) g.1 vcl sz ([] ++ pl))) (va_Qv (fun (u : va_W) => (True) ∧ okx g T xs u) (po g.1 vcl (va_A ([] ++ pl) sz) (fun (u : va_W) => [] ++ u)) (va_A ([] ++ pl) sz)) 0 0 (va_A ([] ++ pl) sz) := by
  refine mc_entry (cc := c_MH_rowBy) (maxL := 7) (ret := none) (by decide) rfl (Nat.le_of_ble_eq_true rfl) ?_
  intro p e s m args below meth c ls F hr hlk hnm hsz hP hD hE hA hl
  obtain ⟨hx, hb, hml, hown, hts⟩ := id F
  have hK := hE.1
  generalize va_A ([] ++ pl) sz = A at hD hE hA ⊢
  have hS : va_S A s.heap s.heap [] := va_S.rf
  have hl : lv_has ls 7 [(0, .ref h0), (1, .int (nI rw)), (2, .ref to)] := hl
  refine lv_iconst (v := nI 0) hx hb dMH_rowBy_0 (by decide) ?_
  refine lv_istore_n (lv' := [(3, .int (nI 0)), (0, .ref h0), (1, .int (nI rw)), (2, .ref to)]) hx hb dMH_rowBy_1 rfl hl (by decide) rfl (fun ls hl => ?_)
  have lp21 : ∀ (n21 : Nat) (i21 : Nat) (pl : va_W) (ls : Array Slot) (H : Heap) (locs : List Loc), n21 + i21 = 256 → lv_has ls 7 [(3, .int (nI i21)), (0, .ref h0), (1, .int (nI rw)), (2, .ref to)] → okx g T xs pl → va_P g.1 vcl ([] ++ pl) H → va_D A ([] ++ pl) → va_S A s.heap H locs → W p l e ({ frames := 1, cells := 0, slots := 0, locals := 28 } : Room) s m args below meth c H locs 0 0 (MQ below (va_Qv (fun (u : va_W) => (True) ∧ okx g T xs u) (po g.1 vcl A (fun (u : va_W) => [] ++ u)) A) args s 0 0 A) (F0 m 2 ls []) := by
    intro n21
    induction n21 with
    | zero =>
      intro i21 pl ls H locs hm21  hl hO hP hD hS
      refine lv_iload_n hx hb dMH_rowBy_2 rfl (lv_at hl 0 rfl) ?_
      refine lv_sipush (v := nI 256) hx hb dMH_rowBy_3 (by decide) ?_
      refine mi_ge (tgt := 84) hx hb dMH_rowBy_6 (by decide) (by omega) (by omega) (fun h21 => ?_) (fun h21 => absurd h21 (by omega))
      refine lv_aload_n hx hb dMH_rowBy_84 rfl (lv_at hl 1 rfl) ?_
      refine ty_get (ci := 12) (C := "LatticeKeysModel$Hands") (TT := T_MH) (N := 31) (kd := (48, 0)) hx hb hts (wg_ft i_MH) hown hK hO k_h0 (nxg hc0 k_h0 rfl) hP (fun _ h9 => h9) rfl 1 (by decide) (hts _ (wg_t kw_1433)) (fun _ h9 => h9) (cd := (3, 22, 0)) rfl dMH_rowBy_85 (fun v21 hv21 => ?_)
      obtain ⟨r21, rfl, kr21⟩ := (show ∃ r : Nat, v21 = .ref r ∧ T r = some (22, 0) from hv21)
      refine lv_aload_n hx hb dMH_rowBy_88 rfl (lv_at hl 1 rfl) ?_
      refine ty_get (ci := 12) (C := "LatticeKeysModel$Hands") (TT := T_MH) (N := 31) (kd := (48, 0)) hx hb hts (wg_ft i_MH) hown hK hO k_h0 (nxg hc0 k_h0 rfl) hP (fun _ h9 => h9) rfl 14 (by decide) (hts _ (wg_t kw_1446)) (fun _ h9 => h9) (cd := (3, 0, 256)) rfl dMH_rowBy_89 (fun v22 hv22 => ?_)
      obtain ⟨r22, rfl, kr22⟩ := (show ∃ r : Nat, v22 = .ref r ∧ T r = some (0, 256) from hv22)
      refine lv_aload_n hx hb dMH_rowBy_92 rfl (lv_at hl 3 rfl) ?_
      refine lv_iconst (v := nI 1) hx hb dMH_rowBy_93 (by decide) ?_
      refine lv_iconst (v := nI 0) hx hb dMH_rowBy_94 (by decide) ?_
      refine mp_v (cx := []) (wr := []) hP hD hS hA [] [] rfl rfl rfl (by decide) (va_runV (As := [.ref r22, .ref to, .int (nI 1), .int (nI 0)]) (rest := []) F (t_MR_back_22_0 l g _ T xs pl hO hU hc0 r21 r22 to kr21 kr22 k_to) (cwV 4 hts (wg_app (wg_c kw_1739 (wg_c kw_1740 (wg_c kw_1741 (wg_c kw_12 wg_n)))) kw_1742) rfl rfl rfl (by decide +kernel) ⟨by decide, by decide⟩) (pp_VT (en_ok g) (ci := 10) (kd := (22, 0)) hK hO kr21 (nxg hc0 kr21 rfl) (fun _ h9 => ko1 h9) hP hD hS hA hE [] rfl rfl rfl) rfl rfl hl.1 rfl (lv_room (Nat.le_of_ble_eq_true rfl)) dMH_rowBy_95 ⟨by omega, by omega⟩) (fun  pl H locs hu21 hP hD hS => ?_)
      obtain ⟨hq21, hO⟩ := hu21
      have hP : va_P g.1 vcl ([] ++ pl) _ := hP
      have hD : va_D _ ([] ++ pl) := hD
      refine W.widen (k := 0) (n := 0) (by omega) (by omega) ?_
      exact mp_vret hx hb hr hlk hP hD hS pl ⟨trivial, hO⟩ [] rfl rfl rfl (by omega) (by omega) dMH_rowBy_98
    | succ n21 ih21 =>
      intro i21 pl ls H locs hm21  hl hO hP hD hS
      refine lv_iload_n hx hb dMH_rowBy_2 rfl (lv_at hl 0 rfl) ?_
      refine lv_sipush (v := nI 256) hx hb dMH_rowBy_3 (by decide) ?_
      refine mi_ge (tgt := 84) hx hb dMH_rowBy_6 (by decide) (by omega) (by omega) (fun h22 => absurd h22 (by omega)) (fun h22 => ?_)
      refine lv_lconst (v := 0) hx hb dMH_rowBy_9 (by decide) ?_
      refine lv_lstore (lv' := [(4, .long 0), (3, .int (nI i21)), (0, .ref h0), (1, .int (nI rw)), (2, .ref to)]) hx hb dMH_rowBy_10 hl (by decide) rfl (fun ls hl => ?_)
      refine lv_iconst (v := nI 0) hx hb dMH_rowBy_12 (by decide) ?_
      refine lv_istore (lv' := [(6, .int (nI 0)), (4, .long 0), (3, .int (nI i21)), (0, .ref h0), (1, .int (nI rw)), (2, .ref to)]) hx hb dMH_rowBy_13 hl (by decide) rfl (fun ls hl => ?_)
      have lp22 : ∀ (n22 : Nat) (i22 : Nat) (y21 : Int64) (pl : va_W) (ls : Array Slot) (H : Heap) (locs : List Loc), n22 + i22 = 7 → lv_has ls 7 [(6, .int (nI i22)), (4, .long y21), (3, .int (nI i21)), (0, .ref h0), (1, .int (nI rw)), (2, .ref to)] → okx g T xs pl → va_P g.1 vcl ([] ++ pl) H → va_D A ([] ++ pl) → va_S A s.heap H locs → W p l e ({ frames := 1, cells := 0, slots := 0, locals := 28 } : Room) s m args below meth c H locs 0 0 (MQ below (va_Qv (fun (u : va_W) => (True) ∧ okx g T xs u) (po g.1 vcl A (fun (u : va_W) => [] ++ u)) A) args s 0 0 A) (F0 m 15 ls []) := by
        intro n22
        induction n22 with
        | zero =>
          intro i22 y21 pl ls H locs hm22  hl hO hP hD hS
          refine lv_iload hx hb dMH_rowBy_15 (lv_at hl 0 rfl) ?_
          refine lv_aload_n hx hb dMH_rowBy_17 rfl (lv_at hl 3 rfl) ?_
          refine ty_get (ci := 12) (C := "LatticeKeysModel$Hands") (TT := T_MH) (N := 31) (kd := (48, 0)) hx hb hts (wg_ft i_MH) hown hK hO k_h0 (nxg hc0 k_h0 rfl) hP (fun _ h9 => h9) rfl 25 (by decide) (hts _ (wg_t kw_1457)) (fun _ h9 => h9) (cd := (1, 0, 7)) rfl dMH_rowBy_18 (fun v23 hv23 => ?_)
          obtain rfl := (show v23 = .int (nI 7) from hv23)
          refine mi_ge (tgt := 65) hx hb dMH_rowBy_21 (by decide) (by omega) (by omega) (fun h23 => ?_) (fun h23 => absurd h23 (by omega))
          refine lv_aload_n hx hb dMH_rowBy_65 rfl (lv_at hl 3 rfl) ?_
          refine ty_get (ci := 12) (C := "LatticeKeysModel$Hands") (TT := T_MH) (N := 31) (kd := (48, 0)) hx hb hts (wg_ft i_MH) hown hK hO k_h0 (nxg hc0 k_h0 rfl) hP (fun _ h9 => h9) rfl 14 (by decide) (hts _ (wg_t kw_1446)) (fun _ h9 => h9) (cd := (3, 0, 256)) rfl dMH_rowBy_66 (fun v24 hv24 => ?_)
          obtain ⟨r23, rfl, kr23⟩ := (show ∃ r : Nat, v24 = .ref r ∧ T r = some (0, 256) from hv24)
          refine lv_iload_n hx hb dMH_rowBy_69 rfl (lv_at hl 2 rfl) ?_
          refine lv_lload hx hb dMH_rowBy_70 (lv_at hl 1 rfl) ?_
          refine lv_ldc2 (v := (8380417)) hx hb hown (hts _ (wg_t kw_1738)) dMH_rowBy_72 ?_
          refine lv_lrem hx hb dMH_rowBy_75 (by decide) ?_
          refine ml_any (fun y22 => ?_)
          refine lv_l2i hx hb dMH_rowBy_76 rfl ?_
          refine mi_any (fun z21 => ?_)
          refine ty_iast hx hb hK hO kr23 (nxg hc0 kr23 rfl) hP hD hS (vp_in_nI (by omega) (by decide)) dMH_rowBy_77 (fun pl H locs hO hP hD hS => ?_)
          refine mi_iinc (k := 2) (x := i21) (d := 1) (y := i21 + 1) (lv' := [(3, .int (nI (i21 + 1))), (6, .int (nI i22)), (4, .long y21), (0, .ref h0), (1, .int (nI rw)), (2, .ref to)]) hx hb dMH_rowBy_78 hl rfl (by decide) rfl (by decide) rfl (fun ls hl => ?_)
          refine lv_goto (tgt := 2) hx hb dMH_rowBy_81 (by decide) ?_
          exact ih21 (i21 + 1) pl ls H locs (by omega) (lv_sub hl [0, 3, 4, 5] rfl) hO hP hD hS
        | succ n22 ih22 =>
          intro i22 y21 pl ls H locs hm22  hl hO hP hD hS
          refine lv_iload hx hb dMH_rowBy_15 (lv_at hl 0 rfl) ?_
          refine lv_aload_n hx hb dMH_rowBy_17 rfl (lv_at hl 3 rfl) ?_
          refine ty_get (ci := 12) (C := "LatticeKeysModel$Hands") (TT := T_MH) (N := 31) (kd := (48, 0)) hx hb hts (wg_ft i_MH) hown hK hO k_h0 (nxg hc0 k_h0 rfl) hP (fun _ h9 => h9) rfl 25 (by decide) (hts _ (wg_t kw_1457)) (fun _ h9 => h9) (cd := (1, 0, 7)) rfl dMH_rowBy_18 (fun v25 hv25 => ?_)
          obtain rfl := (show v25 = .int (nI 7) from hv25)
          refine mi_ge (tgt := 65) hx hb dMH_rowBy_21 (by decide) (by omega) (by omega) (fun h24 => absurd h24 (by omega)) (fun h24 => ?_)
          refine lv_lload hx hb dMH_rowBy_24 (lv_at hl 1 rfl) ?_
          refine lv_aload_n hx hb dMH_rowBy_26 rfl (lv_at hl 3 rfl) ?_
          refine ty_get (ci := 12) (C := "LatticeKeysModel$Hands") (TT := T_MH) (N := 31) (kd := (48, 0)) hx hb hts (wg_ft i_MH) hown hK hO k_h0 (nxg hc0 k_h0 rfl) hP (fun _ h9 => h9) rfl 2 (by decide) (hts _ (wg_t kw_1434)) (fun _ h9 => h9) (cd := (3, 3, 64)) rfl dMH_rowBy_27 (fun v26 hv26 => ?_)
          obtain ⟨r24, rfl, kr24⟩ := (show ∃ r : Nat, v26 = .ref r ∧ T r = some (3, 64) from hv26)
          refine lv_bipush (v := nI 8) hx hb dMH_rowBy_30 (by decide) ?_
          refine lv_iload_n hx hb dMH_rowBy_32 rfl (lv_at hl 4 rfl) ?_
          refine mi_imul hx hb dMH_rowBy_33 ?_
          refine lv_iload hx hb dMH_rowBy_34 (lv_at hl 0 rfl) ?_
          refine mi_iadd hx hb dMH_rowBy_36 ?_
          refine ty_aald3 hx hb hK hO kr24 (nxg hc0 kr24 rfl) hP (by omega) (by decide) dMH_rowBy_37 (fun r25 kr25 => ?_)
          refine lv_iload_n hx hb dMH_rowBy_38 rfl (lv_at hl 2 rfl) ?_
          refine ty_iald hx hb hK hO kr25 (nxg hc0 kr25 rfl) hP (vp_in_nI (by omega) (by decide)) dMH_rowBy_39 (fun z22 => ?_)
          refine lv_i2l hx hb dMH_rowBy_40 rfl ?_
          refine ml_any (fun y23 => ?_)
          refine lv_aload_n hx hb dMH_rowBy_41 rfl (lv_at hl 3 rfl) ?_
          refine ty_get (ci := 12) (C := "LatticeKeysModel$Hands") (TT := T_MH) (N := 31) (kd := (48, 0)) hx hb hts (wg_ft i_MH) hown hK hO k_h0 (nxg hc0 k_h0 rfl) hP (fun _ h9 => h9) rfl 9 (by decide) (hts _ (wg_t kw_1441)) (fun _ h9 => h9) (cd := (3, 3, 7)) rfl dMH_rowBy_42 (fun v27 hv27 => ?_)
          obtain ⟨r26, rfl, kr26⟩ := (show ∃ r : Nat, v27 = .ref r ∧ T r = some (3, 7) from hv27)
          refine lv_iload hx hb dMH_rowBy_45 (lv_at hl 0 rfl) ?_
          refine ty_aald3 hx hb hK hO kr26 (nxg hc0 kr26 rfl) hP (by omega) (by decide) dMH_rowBy_47 (fun r27 kr27 => ?_)
          refine lv_iload_n hx hb dMH_rowBy_48 rfl (lv_at hl 2 rfl) ?_
          refine ty_iald hx hb hK hO kr27 (nxg hc0 kr27 rfl) hP (vp_in_nI (by omega) (by decide)) dMH_rowBy_49 (fun z23 => ?_)
          refine lv_i2l hx hb dMH_rowBy_50 rfl ?_
          refine ml_any (fun y24 => ?_)
          refine lv_lmul hx hb dMH_rowBy_51 ?_
          refine ml_any (fun y25 => ?_)
          refine lv_ldc2 (v := (8380417)) hx hb hown (hts _ (wg_t kw_1738)) dMH_rowBy_52 ?_
          refine lv_lrem hx hb dMH_rowBy_55 (by decide) ?_
          refine ml_any (fun y26 => ?_)
          refine lv_ladd hx hb dMH_rowBy_56 ?_
          refine ml_any (fun y27 => ?_)
          refine lv_lstore (lv' := [(4, .long y27), (6, .int (nI i22)), (3, .int (nI i21)), (0, .ref h0), (1, .int (nI rw)), (2, .ref to)]) hx hb dMH_rowBy_57 hl (by decide) rfl (fun ls hl => ?_)
          refine mi_iinc (k := 1) (x := i22) (d := 1) (y := i22 + 1) (lv' := [(6, .int (nI (i22 + 1))), (4, .long y27), (3, .int (nI i21)), (0, .ref h0), (1, .int (nI rw)), (2, .ref to)]) hx hb dMH_rowBy_59 hl rfl (by decide) rfl (by decide) rfl (fun ls hl => ?_)
          refine lv_goto (tgt := 15) hx hb dMH_rowBy_62 (by decide) ?_
          exact ih22 (i22 + 1) y27 pl ls H locs (by omega) (lv_sub hl [0, 1, 2, 3, 4, 5] rfl) hO hP hD hS
      exact lp22 7 0 0 pl ls _ _ (by omega) (lv_sub hl [0, 1, 2, 3, 4, 5] rfl) hO hP hD hS
  exact lp21 256 0 pl ls _ _ (by omega) (lv_sub hl [0, 1, 2, 3] rfl) hO hP hD hS
set_option maxHeartbeats 400000 in
set_option maxRecDepth 100000 in
theorem t_MH_turned_0 (l : Launch) (g : Gd) (sz : Nat) (T : Ty) (xs : List Nat) (pl : va_W) (hO : okx g T xs pl) (hU : uni T) (hc0 : clo T xs 0) (h0 f to : Nat) (k_h0 : T h0 = some (46, 0)) (k_f : T f = some (0, 256)) (k_to : T to = some (0, 256))  : Met l y_MH_turned w_MH_turned ({ frames := 0, cells := 0, slots := 0, locals := 0 } : Room) (va_Pc [.ref h0, .ref f, .ref to] (pr (en g) g.1 vcl sz ([] ++ pl))) (va_Qv (fun (u : va_W) => (True) ∧ okx g T xs u) (po g.1 vcl (va_A ([] ++ pl) sz) (fun (u : va_W) => [] ++ u)) (va_A ([] ++ pl) sz)) 0 0 (va_A ([] ++ pl) sz) := by
  refine mc_entry (cc := c_MH_turned) (maxL := 8) (ret := none) (by decide) rfl (Nat.le_of_ble_eq_true rfl) ?_
  intro p e s m args below meth c ls F hr hlk hnm hsz hP hD hE hA hl
  obtain ⟨hx, hb, hml, hown, hts⟩ := id F
  have hK := hE.1
  generalize va_A ([] ++ pl) sz = A at hD hE hA ⊢
  have hS : va_S A s.heap s.heap [] := va_S.rf
  have hl : lv_has ls 8 [(0, .ref h0), (1, .ref f), (2, .ref to)] := hl
  refine lv_iconst (v := nI 0) hx hb dMH_turned_0 (by decide) ?_
  refine lv_istore_n (lv' := [(3, .int (nI 0)), (0, .ref h0), (1, .ref f), (2, .ref to)]) hx hb dMH_turned_1 rfl hl (by decide) rfl (fun ls hl => ?_)
  have lp21 : ∀ (n21 : Nat) (i21 : Nat) (pl : va_W) (ls : Array Slot) (H : Heap) (locs : List Loc), n21 + i21 = 256 → lv_has ls 8 [(3, .int (nI i21)), (0, .ref h0), (1, .ref f), (2, .ref to)] → okx g T xs pl → va_P g.1 vcl ([] ++ pl) H → va_D A ([] ++ pl) → va_S A s.heap H locs → W p l e ({ frames := 0, cells := 0, slots := 0, locals := 0 } : Room) s m args below meth c H locs 0 0 (MQ below (va_Qv (fun (u : va_W) => (True) ∧ okx g T xs u) (po g.1 vcl A (fun (u : va_W) => [] ++ u)) A) args s 0 0 A) (F0 m 2 ls []) := by
    intro n21
    induction n21 with
    | zero =>
      intro i21 pl ls H locs hm21  hl hO hP hD hS
      refine lv_iload_n hx hb dMH_turned_2 rfl (lv_at hl 0 rfl) ?_
      refine lv_sipush (v := nI 256) hx hb dMH_turned_3 (by decide) ?_
      refine mi_ge (tgt := 22) hx hb dMH_turned_6 (by decide) (by omega) (by omega) (fun h21 => ?_) (fun h21 => absurd h21 (by omega))
      refine lv_iconst (v := nI 0) hx hb dMH_turned_22 (by decide) ?_
      refine lv_istore_n (lv' := [(3, .int (nI 0)), (0, .ref h0), (1, .ref f), (2, .ref to)]) hx hb dMH_turned_23 rfl hl (by decide) rfl (fun ls hl => ?_)
      have lp22 : ∀ (n22 : Nat) (i22 : Nat) (pl : va_W) (ls : Array Slot) (H : Heap) (locs : List Loc), n22 + i22 = 256 → lv_has ls 8 [(3, .int (nI i22)), (0, .ref h0), (1, .ref f), (2, .ref to)] → okx g T xs pl → va_P g.1 vcl ([] ++ pl) H → va_D A ([] ++ pl) → va_S A s.heap H locs → W p l e ({ frames := 0, cells := 0, slots := 0, locals := 0 } : Room) s m args below meth c H locs 0 0 (MQ below (va_Qv (fun (u : va_W) => (True) ∧ okx g T xs u) (po g.1 vcl A (fun (u : va_W) => [] ++ u)) A) args s 0 0 A) (F0 m 24 ls []) := by
        intro n22
        induction n22 with
        | zero =>
          intro i22 pl ls H locs hm22  hl hO hP hD hS
          refine lv_iload_n hx hb dMH_turned_24 rfl (lv_at hl 0 rfl) ?_
          refine lv_sipush (v := nI 256) hx hb dMH_turned_25 (by decide) ?_
          refine mi_ge (tgt := 126) hx hb dMH_turned_28 (by decide) (by omega) (by omega) (fun h22 => ?_) (fun h22 => absurd h22 (by omega))
          refine lv_iconst (v := nI 0) hx hb dMH_turned_126 (by decide) ?_
          refine lv_istore_n (lv' := [(3, .int (nI 0)), (0, .ref h0), (1, .ref f), (2, .ref to)]) hx hb dMH_turned_127 rfl hl (by decide) rfl (fun ls hl => ?_)
          have lp23 : ∀ (n23 : Nat) (i23 : Nat) (pl : va_W) (ls : Array Slot) (H : Heap) (locs : List Loc), n23 + i23 = 256 → lv_has ls 8 [(3, .int (nI i23)), (0, .ref h0), (2, .ref to)] → okx g T xs pl → va_P g.1 vcl ([] ++ pl) H → va_D A ([] ++ pl) → va_S A s.heap H locs → W p l e ({ frames := 0, cells := 0, slots := 0, locals := 0 } : Room) s m args below meth c H locs 0 0 (MQ below (va_Qv (fun (u : va_W) => (True) ∧ okx g T xs u) (po g.1 vcl A (fun (u : va_W) => [] ++ u)) A) args s 0 0 A) (F0 m 128 ls []) := by
            intro n23
            induction n23 with
            | zero =>
              intro i23 pl ls H locs hm23  hl hO hP hD hS
              refine lv_iload_n hx hb dMH_turned_128 rfl (lv_at hl 0 rfl) ?_
              refine lv_sipush (v := nI 256) hx hb dMH_turned_129 (by decide) ?_
              refine mi_ge (tgt := 175) hx hb dMH_turned_132 (by decide) (by omega) (by omega) (fun h23 => ?_) (fun h23 => absurd h23 (by omega))
              exact mp_vret hx hb hr hlk hP hD hS pl ⟨trivial, hO⟩ [] rfl rfl rfl (by omega) (by omega) dMH_turned_175
            | succ n23 ih23 =>
              intro i23 pl ls H locs hm23  hl hO hP hD hS
              refine lv_iload_n hx hb dMH_turned_128 rfl (lv_at hl 0 rfl) ?_
              refine lv_sipush (v := nI 256) hx hb dMH_turned_129 (by decide) ?_
              refine mi_ge (tgt := 175) hx hb dMH_turned_132 (by decide) (by omega) (by omega) (fun h24 => absurd h24 (by omega)) (fun h24 => ?_)
              refine lv_aload_n hx hb dMH_turned_135 rfl (lv_at hl 1 rfl) ?_
              refine ty_get (ci := 12) (C := "LatticeKeysModel$Hands") (TT := T_MH) (N := 31) (kd := (46, 0)) hx hb hts (wg_ft i_MH) hown hK hO k_h0 (nxg hc0 k_h0 rfl) hP (fun _ h9 => h9) rfl 15 (by decide) (hts _ (wg_t kw_1447)) (fun _ h9 => h9) (cd := (3, 2, 256)) rfl dMH_turned_136 (fun v21 hv21 => ?_)
              obtain ⟨r21, rfl, kr21⟩ := (show ∃ r : Nat, v21 = .ref r ∧ T r = some (2, 256) from hv21)
              refine lv_iload_n hx hb dMH_turned_139 rfl (lv_at hl 0 rfl) ?_
              refine ty_lald hx hb hK hO kr21 (nxg hc0 kr21 rfl) hP (vp_in_nI (by omega) (by decide)) dMH_turned_140 (fun y21 => ?_)
              refine lv_ldc2 (v := (8380417)) hx hb hown (hts _ (wg_t kw_1738)) dMH_turned_141 ?_
              refine lv_lrem hx hb dMH_turned_144 (by decide) ?_
              refine ml_any (fun y22 => ?_)
              refine lv_lstore (lv' := [(4, .long y22), (3, .int (nI i23)), (0, .ref h0), (2, .ref to)]) hx hb dMH_turned_145 hl (by decide) rfl (fun ls hl => ?_)
              refine lv_aload_n hx hb dMH_turned_147 rfl (lv_at hl 3 rfl) ?_
              refine lv_iload_n hx hb dMH_turned_148 rfl (lv_at hl 1 rfl) ?_
              refine lv_lload hx hb dMH_turned_149 (lv_at hl 0 rfl) ?_
              refine lv_lconst (v := 0) hx hb dMH_turned_151 (by decide) ?_
              refine W.lcmp hx hb dMH_turned_152 ?_
              refine mi_any (fun z21 => ?_)
              refine lv_if_ge (tgt := 165) hx hb dMH_turned_153 (by decide) (fun h25 => ?_) (fun h25 => ?_)
              · refine lv_lload hx hb dMH_turned_165 (lv_at hl 0 rfl) ?_
                refine lv_l2i hx hb dMH_turned_167 rfl ?_
                refine mi_any (fun z22 => ?_)
                refine ty_iast hx hb hK hO k_to (nxg hc0 k_to rfl) hP hD hS (vp_in_nI (by omega) (by decide)) dMH_turned_168 (fun pl H locs hO hP hD hS => ?_)
                refine mi_iinc (k := 1) (x := i23) (d := 1) (y := i23 + 1) (lv' := [(3, .int (nI (i23 + 1))), (4, .long y22), (0, .ref h0), (2, .ref to)]) hx hb dMH_turned_169 hl rfl (by decide) rfl (by decide) rfl (fun ls hl => ?_)
                refine lv_goto (tgt := 128) hx hb dMH_turned_172 (by decide) ?_
                exact ih23 (i23 + 1) pl ls H locs (by omega) (lv_sub hl [0, 2, 3] rfl) hO hP hD hS
              · refine lv_lload hx hb dMH_turned_156 (lv_at hl 0 rfl) ?_
                refine lv_ldc2 (v := (8380417)) hx hb hown (hts _ (wg_t kw_1738)) dMH_turned_158 ?_
                refine lv_ladd hx hb dMH_turned_161 ?_
                refine ml_any (fun y23 => ?_)
                refine lv_goto (tgt := 167) hx hb dMH_turned_162 (by decide) ?_
                refine lv_l2i hx hb dMH_turned_167 rfl ?_
                refine mi_any (fun z23 => ?_)
                refine ty_iast hx hb hK hO k_to (nxg hc0 k_to rfl) hP hD hS (vp_in_nI (by omega) (by decide)) dMH_turned_168 (fun pl H locs hO hP hD hS => ?_)
                refine mi_iinc (k := 1) (x := i23) (d := 1) (y := i23 + 1) (lv' := [(3, .int (nI (i23 + 1))), (4, .long y22), (0, .ref h0), (2, .ref to)]) hx hb dMH_turned_169 hl rfl (by decide) rfl (by decide) rfl (fun ls hl => ?_)
                refine lv_goto (tgt := 128) hx hb dMH_turned_172 (by decide) ?_
                exact ih23 (i23 + 1) pl ls H locs (by omega) (lv_sub hl [0, 2, 3] rfl) hO hP hD hS
          exact lp23 256 0 pl ls _ _ (by omega) (lv_sub hl [0, 1, 3] rfl) hO hP hD hS
        | succ n22 ih22 =>
          intro i22 pl ls H locs hm22  hl hO hP hD hS
          refine lv_iload_n hx hb dMH_turned_24 rfl (lv_at hl 0 rfl) ?_
          refine lv_sipush (v := nI 256) hx hb dMH_turned_25 (by decide) ?_
          refine mi_ge (tgt := 126) hx hb dMH_turned_28 (by decide) (by omega) (by omega) (fun h26 => absurd h26 (by omega)) (fun h26 => ?_)
          refine lv_aload_n hx hb dMH_turned_31 rfl (lv_at hl 1 rfl) ?_
          refine ty_get (ci := 12) (C := "LatticeKeysModel$Hands") (TT := T_MH) (N := 31) (kd := (46, 0)) hx hb hts (wg_ft i_MH) hown hK hO k_h0 (nxg hc0 k_h0 rfl) hP (fun _ h9 => h9) rfl 12 (by decide) (hts _ (wg_t kw_1444)) (fun _ h9 => h9) (cd := (3, 0, 256)) rfl dMH_turned_32 (fun v22 hv22 => ?_)
          obtain ⟨r22, rfl, kr22⟩ := (show ∃ r : Nat, v22 = .ref r ∧ T r = some (0, 256) from hv22)
          refine lv_iload_n hx hb dMH_turned_35 rfl (lv_at hl 0 rfl) ?_
          refine ty_iald hx hb hK hO kr22 (nxg hc0 kr22 rfl) hP (vp_in_nI (by omega) (by decide)) dMH_turned_36 (fun z24 => ?_)
          refine lv_if_ne (tgt := 43) hx hb dMH_turned_37 (by decide) (fun h27 => ?_) (fun h27 => ?_)
          · refine lv_iconst (v := nI 0) hx hb dMH_turned_43 (by decide) ?_
            refine lv_istore (lv' := [(4, .int (nI 0)), (3, .int (nI i22)), (0, .ref h0), (1, .ref f), (2, .ref to)]) hx hb dMH_turned_44 hl (by decide) rfl (fun ls hl => ?_)
            have lp24 : ∀ (n24 : Nat) (i24 : Nat) (pl : va_W) (ls : Array Slot) (H : Heap) (locs : List Loc), n24 + i24 = 256 → lv_has ls 8 [(4, .int (nI i24)), (3, .int (nI i22)), (0, .ref h0), (1, .ref f), (2, .ref to)] → okx g T xs pl → va_P g.1 vcl ([] ++ pl) H → va_D A ([] ++ pl) → va_S A s.heap H locs → W p l e ({ frames := 0, cells := 0, slots := 0, locals := 0 } : Room) s m args below meth c H locs 0 0 (MQ below (va_Qv (fun (u : va_W) => (True) ∧ okx g T xs u) (po g.1 vcl A (fun (u : va_W) => [] ++ u)) A) args s 0 0 A) (F0 m 46 ls []) := by
              intro n24
              induction n24 with
              | zero =>
                intro i24 pl ls H locs hm24  hl hO hP hD hS
                refine lv_iload hx hb dMH_turned_46 (lv_at hl 0 rfl) ?_
                refine lv_sipush (v := nI 256) hx hb dMH_turned_48 (by decide) ?_
                refine mi_ge (tgt := 120) hx hb dMH_turned_51 (by decide) (by omega) (by omega) (fun h28 => ?_) (fun h28 => absurd h28 (by omega))
                refine mi_iinc (k := 1) (x := i22) (d := 1) (y := i22 + 1) (lv' := [(3, .int (nI (i22 + 1))), (4, .int (nI i24)), (0, .ref h0), (1, .ref f), (2, .ref to)]) hx hb dMH_turned_120 hl rfl (by decide) rfl (by decide) rfl (fun ls hl => ?_)
                refine lv_goto (tgt := 24) hx hb dMH_turned_123 (by decide) ?_
                exact ih22 (i22 + 1) pl ls H locs (by omega) (lv_sub hl [0, 2, 3, 4] rfl) hO hP hD hS
              | succ n24 ih24 =>
                intro i24 pl ls H locs hm24  hl hO hP hD hS
                refine lv_iload hx hb dMH_turned_46 (lv_at hl 0 rfl) ?_
                refine lv_sipush (v := nI 256) hx hb dMH_turned_48 (by decide) ?_
                refine mi_ge (tgt := 120) hx hb dMH_turned_51 (by decide) (by omega) (by omega) (fun h29 => absurd h29 (by omega)) (fun h29 => ?_)
                refine lv_iload_n hx hb dMH_turned_54 rfl (lv_at hl 1 rfl) ?_
                refine lv_iload hx hb dMH_turned_55 (lv_at hl 0 rfl) ?_
                refine mi_iadd hx hb dMH_turned_57 ?_
                refine lv_istore (lv' := [(5, .int (nI (i22 + i24))), (4, .int (nI i24)), (3, .int (nI i22)), (0, .ref h0), (1, .ref f), (2, .ref to)]) hx hb dMH_turned_58 hl (by decide) rfl (fun ls hl => ?_)
                refine lv_aload_n hx hb dMH_turned_60 rfl (lv_at hl 3 rfl) ?_
                refine ty_get (ci := 12) (C := "LatticeKeysModel$Hands") (TT := T_MH) (N := 31) (kd := (46, 0)) hx hb hts (wg_ft i_MH) hown hK hO k_h0 (nxg hc0 k_h0 rfl) hP (fun _ h9 => h9) rfl 12 (by decide) (hts _ (wg_t kw_1444)) (fun _ h9 => h9) (cd := (3, 0, 256)) rfl dMH_turned_61 (fun v23 hv23 => ?_)
                obtain ⟨r23, rfl, kr23⟩ := (show ∃ r : Nat, v23 = .ref r ∧ T r = some (0, 256) from hv23)
                refine lv_iload_n hx hb dMH_turned_64 rfl (lv_at hl 2 rfl) ?_
                refine ty_iald hx hb hK hO kr23 (nxg hc0 kr23 rfl) hP (vp_in_nI (by omega) (by decide)) dMH_turned_65 (fun z25 => ?_)
                refine lv_i2l hx hb dMH_turned_66 rfl ?_
                refine ml_any (fun y24 => ?_)
                refine lv_aload_n hx hb dMH_turned_67 rfl (lv_at hl 4 rfl) ?_
                refine lv_iload hx hb dMH_turned_68 (lv_at hl 1 rfl) ?_
                refine ty_iald hx hb hK hO k_f (nxg hc0 k_f rfl) hP (vp_in_nI (by omega) (by decide)) dMH_turned_70 (fun z26 => ?_)
                refine lv_i2l hx hb dMH_turned_71 rfl ?_
                refine ml_any (fun y25 => ?_)
                refine lv_lmul hx hb dMH_turned_72 ?_
                refine ml_any (fun y26 => ?_)
                refine lv_lstore (lv' := [(6, .long y26), (5, .int (nI (i22 + i24))), (4, .int (nI i24)), (3, .int (nI i22)), (0, .ref h0), (1, .ref f), (2, .ref to)]) hx hb dMH_turned_73 hl (by decide) rfl (fun ls hl => ?_)
                refine lv_iload hx hb dMH_turned_75 (lv_at hl 1 rfl) ?_
                refine lv_sipush (v := nI 256) hx hb dMH_turned_77 (by decide) ?_
                refine mi_ge (tgt := 98) hx hb dMH_turned_80 (by decide) (by omega) (by omega) (fun h30 => ?_) (fun h30 => ?_)
                · refine lv_aload_n hx hb dMH_turned_98 rfl (lv_at hl 4 rfl) ?_
                  refine ty_get (ci := 12) (C := "LatticeKeysModel$Hands") (TT := T_MH) (N := 31) (kd := (46, 0)) hx hb hts (wg_ft i_MH) hown hK hO k_h0 (nxg hc0 k_h0 rfl) hP (fun _ h9 => h9) rfl 15 (by decide) (hts _ (wg_t kw_1447)) (fun _ h9 => h9) (cd := (3, 2, 256)) rfl dMH_turned_99 (fun v24 hv24 => ?_)
                  obtain ⟨r24, rfl, kr24⟩ := (show ∃ r : Nat, v24 = .ref r ∧ T r = some (2, 256) from hv24)
                  refine lv_iload hx hb dMH_turned_102 (lv_at hl 1 rfl) ?_
                  refine lv_sipush (v := nI 256) hx hb dMH_turned_104 (by decide) ?_
                  refine mi_isub hx hb dMH_turned_107 (by omega) ?_
                  refine lv_dup2_11 hx hb dMH_turned_108 rfl rfl ?_
                  refine ty_lald hx hb hK hO kr24 (nxg hc0 kr24 rfl) hP (vp_in_nI (by omega) (by decide)) dMH_turned_109 (fun y27 => ?_)
                  refine lv_lload hx hb dMH_turned_110 (lv_at hl 0 rfl) ?_
                  refine lv_lsub hx hb dMH_turned_112 ?_
                  refine ml_any (fun y28 => ?_)
                  refine ty_last hx hb hK hO kr24 (nxg hc0 kr24 rfl) hP hD hS (vp_in_nI (by omega) (by decide)) dMH_turned_113 (fun pl H locs hO hP hD hS => ?_)
                  refine mi_iinc (k := 2) (x := i24) (d := 1) (y := i24 + 1) (lv' := [(4, .int (nI (i24 + 1))), (6, .long y26), (5, .int (nI (i22 + i24))), (3, .int (nI i22)), (0, .ref h0), (1, .ref f), (2, .ref to)]) hx hb dMH_turned_114 hl rfl (by decide) rfl (by decide) rfl (fun ls hl => ?_)
                  refine lv_goto (tgt := 46) hx hb dMH_turned_117 (by decide) ?_
                  exact ih24 (i24 + 1) pl ls H locs (by omega) (lv_sub hl [0, 3, 4, 5, 6] rfl) hO hP hD hS
                · refine lv_aload_n hx hb dMH_turned_83 rfl (lv_at hl 4 rfl) ?_
                  refine ty_get (ci := 12) (C := "LatticeKeysModel$Hands") (TT := T_MH) (N := 31) (kd := (46, 0)) hx hb hts (wg_ft i_MH) hown hK hO k_h0 (nxg hc0 k_h0 rfl) hP (fun _ h9 => h9) rfl 15 (by decide) (hts _ (wg_t kw_1447)) (fun _ h9 => h9) (cd := (3, 2, 256)) rfl dMH_turned_84 (fun v25 hv25 => ?_)
                  obtain ⟨r25, rfl, kr25⟩ := (show ∃ r : Nat, v25 = .ref r ∧ T r = some (2, 256) from hv25)
                  refine lv_iload hx hb dMH_turned_87 (lv_at hl 1 rfl) ?_
                  refine lv_dup2_11 hx hb dMH_turned_89 rfl rfl ?_
                  refine ty_lald hx hb hK hO kr25 (nxg hc0 kr25 rfl) hP (vp_in_nI (by omega) (by decide)) dMH_turned_90 (fun y29 => ?_)
                  refine lv_lload hx hb dMH_turned_91 (lv_at hl 0 rfl) ?_
                  refine lv_ladd hx hb dMH_turned_93 ?_
                  refine ml_any (fun y30 => ?_)
                  refine ty_last hx hb hK hO kr25 (nxg hc0 kr25 rfl) hP hD hS (vp_in_nI (by omega) (by decide)) dMH_turned_94 (fun pl H locs hO hP hD hS => ?_)
                  refine lv_goto (tgt := 114) hx hb dMH_turned_95 (by decide) ?_
                  refine mi_iinc (k := 2) (x := i24) (d := 1) (y := i24 + 1) (lv' := [(4, .int (nI (i24 + 1))), (6, .long y26), (5, .int (nI (i22 + i24))), (3, .int (nI i22)), (0, .ref h0), (1, .ref f), (2, .ref to)]) hx hb dMH_turned_114 hl rfl (by decide) rfl (by decide) rfl (fun ls hl => ?_)
                  refine lv_goto (tgt := 46) hx hb dMH_turned_117 (by decide) ?_
                  exact ih24 (i24 + 1) pl ls H locs (by omega) (lv_sub hl [0, 3, 4, 5, 6] rfl) hO hP hD hS
            exact lp24 256 0 pl ls _ _ (by omega) (lv_sub hl [0, 1, 2, 3, 4] rfl) hO hP hD hS
          · refine lv_goto (tgt := 120) hx hb dMH_turned_40 (by decide) ?_
            refine mi_iinc (k := 0) (x := i22) (d := 1) (y := i22 + 1) (lv' := [(3, .int (nI (i22 + 1))), (0, .ref h0), (1, .ref f), (2, .ref to)]) hx hb dMH_turned_120 hl rfl (by decide) rfl (by decide) rfl (fun ls hl => ?_)
            refine lv_goto (tgt := 24) hx hb dMH_turned_123 (by decide) ?_
            exact ih22 (i22 + 1) pl ls H locs (by omega) (lv_sub hl [0, 1, 2, 3] rfl) hO hP hD hS
      exact lp22 256 0 pl ls _ _ (by omega) (lv_sub hl [0, 1, 2, 3] rfl) hO hP hD hS
    | succ n21 ih21 =>
      intro i21 pl ls H locs hm21  hl hO hP hD hS
      refine lv_iload_n hx hb dMH_turned_2 rfl (lv_at hl 0 rfl) ?_
      refine lv_sipush (v := nI 256) hx hb dMH_turned_3 (by decide) ?_
      refine mi_ge (tgt := 22) hx hb dMH_turned_6 (by decide) (by omega) (by omega) (fun h31 => absurd h31 (by omega)) (fun h31 => ?_)
      refine lv_aload_n hx hb dMH_turned_9 rfl (lv_at hl 1 rfl) ?_
      refine ty_get (ci := 12) (C := "LatticeKeysModel$Hands") (TT := T_MH) (N := 31) (kd := (46, 0)) hx hb hts (wg_ft i_MH) hown hK hO k_h0 (nxg hc0 k_h0 rfl) hP (fun _ h9 => h9) rfl 15 (by decide) (hts _ (wg_t kw_1447)) (fun _ h9 => h9) (cd := (3, 2, 256)) rfl dMH_turned_10 (fun v26 hv26 => ?_)
      obtain ⟨r26, rfl, kr26⟩ := (show ∃ r : Nat, v26 = .ref r ∧ T r = some (2, 256) from hv26)
      refine lv_iload_n hx hb dMH_turned_13 rfl (lv_at hl 0 rfl) ?_
      refine lv_lconst (v := 0) hx hb dMH_turned_14 (by decide) ?_
      refine ty_last hx hb hK hO kr26 (nxg hc0 kr26 rfl) hP hD hS (vp_in_nI (by omega) (by decide)) dMH_turned_15 (fun pl H locs hO hP hD hS => ?_)
      refine mi_iinc (k := 0) (x := i21) (d := 1) (y := i21 + 1) (lv' := [(3, .int (nI (i21 + 1))), (0, .ref h0), (1, .ref f), (2, .ref to)]) hx hb dMH_turned_16 hl rfl (by decide) rfl (by decide) rfl (fun ls hl => ?_)
      refine lv_goto (tgt := 2) hx hb dMH_turned_19 (by decide) ?_
      exact ih21 (i21 + 1) pl ls H locs (by omega) (lv_sub hl [0, 1, 2, 3] rfl) hO hP hD hS
  exact lp21 256 0 pl ls _ _ (by omega) (lv_sub hl [0, 1, 2, 3] rfl) hO hP hD hS
set_option maxHeartbeats 400000 in
set_option maxRecDepth 100000 in
theorem t_MH_turned_1 (l : Launch) (g : Gd) (sz : Nat) (T : Ty) (xs : List Nat) (pl : va_W) (hO : okx g T xs pl) (hU : uni T) (hc0 : clo T xs 0) (h0 f to : Nat) (k_h0 : T h0 = some (47, 0)) (k_f : T f = some (0, 256)) (k_to : T to = some (0, 256))  : Met l y_MH_turned w_MH_turned ({ frames := 0, cells := 0, slots := 0, locals := 0 } : Room) (va_Pc [.ref h0, .ref f, .ref to] (pr (en g) g.1 vcl sz ([] ++ pl))) (va_Qv (fun (u : va_W) => (True) ∧ okx g T xs u) (po g.1 vcl (va_A ([] ++ pl) sz) (fun (u : va_W) => [] ++ u)) (va_A ([] ++ pl) sz)) 0 0 (va_A ([] ++ pl) sz) := by
  refine mc_entry (cc := c_MH_turned) (maxL := 8) (ret := none) (by decide) rfl (Nat.le_of_ble_eq_true rfl) ?_
  intro p e s m args below meth c ls F hr hlk hnm hsz hP hD hE hA hl
  obtain ⟨hx, hb, hml, hown, hts⟩ := id F
  have hK := hE.1
  generalize va_A ([] ++ pl) sz = A at hD hE hA ⊢
  have hS : va_S A s.heap s.heap [] := va_S.rf
  have hl : lv_has ls 8 [(0, .ref h0), (1, .ref f), (2, .ref to)] := hl
  refine lv_iconst (v := nI 0) hx hb dMH_turned_0 (by decide) ?_
  refine lv_istore_n (lv' := [(3, .int (nI 0)), (0, .ref h0), (1, .ref f), (2, .ref to)]) hx hb dMH_turned_1 rfl hl (by decide) rfl (fun ls hl => ?_)
  have lp21 : ∀ (n21 : Nat) (i21 : Nat) (pl : va_W) (ls : Array Slot) (H : Heap) (locs : List Loc), n21 + i21 = 256 → lv_has ls 8 [(3, .int (nI i21)), (0, .ref h0), (1, .ref f), (2, .ref to)] → okx g T xs pl → va_P g.1 vcl ([] ++ pl) H → va_D A ([] ++ pl) → va_S A s.heap H locs → W p l e ({ frames := 0, cells := 0, slots := 0, locals := 0 } : Room) s m args below meth c H locs 0 0 (MQ below (va_Qv (fun (u : va_W) => (True) ∧ okx g T xs u) (po g.1 vcl A (fun (u : va_W) => [] ++ u)) A) args s 0 0 A) (F0 m 2 ls []) := by
    intro n21
    induction n21 with
    | zero =>
      intro i21 pl ls H locs hm21  hl hO hP hD hS
      refine lv_iload_n hx hb dMH_turned_2 rfl (lv_at hl 0 rfl) ?_
      refine lv_sipush (v := nI 256) hx hb dMH_turned_3 (by decide) ?_
      refine mi_ge (tgt := 22) hx hb dMH_turned_6 (by decide) (by omega) (by omega) (fun h21 => ?_) (fun h21 => absurd h21 (by omega))
      refine lv_iconst (v := nI 0) hx hb dMH_turned_22 (by decide) ?_
      refine lv_istore_n (lv' := [(3, .int (nI 0)), (0, .ref h0), (1, .ref f), (2, .ref to)]) hx hb dMH_turned_23 rfl hl (by decide) rfl (fun ls hl => ?_)
      have lp22 : ∀ (n22 : Nat) (i22 : Nat) (pl : va_W) (ls : Array Slot) (H : Heap) (locs : List Loc), n22 + i22 = 256 → lv_has ls 8 [(3, .int (nI i22)), (0, .ref h0), (1, .ref f), (2, .ref to)] → okx g T xs pl → va_P g.1 vcl ([] ++ pl) H → va_D A ([] ++ pl) → va_S A s.heap H locs → W p l e ({ frames := 0, cells := 0, slots := 0, locals := 0 } : Room) s m args below meth c H locs 0 0 (MQ below (va_Qv (fun (u : va_W) => (True) ∧ okx g T xs u) (po g.1 vcl A (fun (u : va_W) => [] ++ u)) A) args s 0 0 A) (F0 m 24 ls []) := by
        intro n22
        induction n22 with
        | zero =>
          intro i22 pl ls H locs hm22  hl hO hP hD hS
          refine lv_iload_n hx hb dMH_turned_24 rfl (lv_at hl 0 rfl) ?_
          refine lv_sipush (v := nI 256) hx hb dMH_turned_25 (by decide) ?_
          refine mi_ge (tgt := 126) hx hb dMH_turned_28 (by decide) (by omega) (by omega) (fun h22 => ?_) (fun h22 => absurd h22 (by omega))
          refine lv_iconst (v := nI 0) hx hb dMH_turned_126 (by decide) ?_
          refine lv_istore_n (lv' := [(3, .int (nI 0)), (0, .ref h0), (1, .ref f), (2, .ref to)]) hx hb dMH_turned_127 rfl hl (by decide) rfl (fun ls hl => ?_)
          have lp23 : ∀ (n23 : Nat) (i23 : Nat) (pl : va_W) (ls : Array Slot) (H : Heap) (locs : List Loc), n23 + i23 = 256 → lv_has ls 8 [(3, .int (nI i23)), (0, .ref h0), (2, .ref to)] → okx g T xs pl → va_P g.1 vcl ([] ++ pl) H → va_D A ([] ++ pl) → va_S A s.heap H locs → W p l e ({ frames := 0, cells := 0, slots := 0, locals := 0 } : Room) s m args below meth c H locs 0 0 (MQ below (va_Qv (fun (u : va_W) => (True) ∧ okx g T xs u) (po g.1 vcl A (fun (u : va_W) => [] ++ u)) A) args s 0 0 A) (F0 m 128 ls []) := by
            intro n23
            induction n23 with
            | zero =>
              intro i23 pl ls H locs hm23  hl hO hP hD hS
              refine lv_iload_n hx hb dMH_turned_128 rfl (lv_at hl 0 rfl) ?_
              refine lv_sipush (v := nI 256) hx hb dMH_turned_129 (by decide) ?_
              refine mi_ge (tgt := 175) hx hb dMH_turned_132 (by decide) (by omega) (by omega) (fun h23 => ?_) (fun h23 => absurd h23 (by omega))
              exact mp_vret hx hb hr hlk hP hD hS pl ⟨trivial, hO⟩ [] rfl rfl rfl (by omega) (by omega) dMH_turned_175
            | succ n23 ih23 =>
              intro i23 pl ls H locs hm23  hl hO hP hD hS
              refine lv_iload_n hx hb dMH_turned_128 rfl (lv_at hl 0 rfl) ?_
              refine lv_sipush (v := nI 256) hx hb dMH_turned_129 (by decide) ?_
              refine mi_ge (tgt := 175) hx hb dMH_turned_132 (by decide) (by omega) (by omega) (fun h24 => absurd h24 (by omega)) (fun h24 => ?_)
              refine lv_aload_n hx hb dMH_turned_135 rfl (lv_at hl 1 rfl) ?_
              refine ty_get (ci := 12) (C := "LatticeKeysModel$Hands") (TT := T_MH) (N := 31) (kd := (47, 0)) hx hb hts (wg_ft i_MH) hown hK hO k_h0 (nxg hc0 k_h0 rfl) hP (fun _ h9 => h9) rfl 15 (by decide) (hts _ (wg_t kw_1447)) (fun _ h9 => h9) (cd := (3, 2, 256)) rfl dMH_turned_136 (fun v21 hv21 => ?_)
              obtain ⟨r21, rfl, kr21⟩ := (show ∃ r : Nat, v21 = .ref r ∧ T r = some (2, 256) from hv21)
              refine lv_iload_n hx hb dMH_turned_139 rfl (lv_at hl 0 rfl) ?_
              refine ty_lald hx hb hK hO kr21 (nxg hc0 kr21 rfl) hP (vp_in_nI (by omega) (by decide)) dMH_turned_140 (fun y21 => ?_)
              refine lv_ldc2 (v := (8380417)) hx hb hown (hts _ (wg_t kw_1738)) dMH_turned_141 ?_
              refine lv_lrem hx hb dMH_turned_144 (by decide) ?_
              refine ml_any (fun y22 => ?_)
              refine lv_lstore (lv' := [(4, .long y22), (3, .int (nI i23)), (0, .ref h0), (2, .ref to)]) hx hb dMH_turned_145 hl (by decide) rfl (fun ls hl => ?_)
              refine lv_aload_n hx hb dMH_turned_147 rfl (lv_at hl 3 rfl) ?_
              refine lv_iload_n hx hb dMH_turned_148 rfl (lv_at hl 1 rfl) ?_
              refine lv_lload hx hb dMH_turned_149 (lv_at hl 0 rfl) ?_
              refine lv_lconst (v := 0) hx hb dMH_turned_151 (by decide) ?_
              refine W.lcmp hx hb dMH_turned_152 ?_
              refine mi_any (fun z21 => ?_)
              refine lv_if_ge (tgt := 165) hx hb dMH_turned_153 (by decide) (fun h25 => ?_) (fun h25 => ?_)
              · refine lv_lload hx hb dMH_turned_165 (lv_at hl 0 rfl) ?_
                refine lv_l2i hx hb dMH_turned_167 rfl ?_
                refine mi_any (fun z22 => ?_)
                refine ty_iast hx hb hK hO k_to (nxg hc0 k_to rfl) hP hD hS (vp_in_nI (by omega) (by decide)) dMH_turned_168 (fun pl H locs hO hP hD hS => ?_)
                refine mi_iinc (k := 1) (x := i23) (d := 1) (y := i23 + 1) (lv' := [(3, .int (nI (i23 + 1))), (4, .long y22), (0, .ref h0), (2, .ref to)]) hx hb dMH_turned_169 hl rfl (by decide) rfl (by decide) rfl (fun ls hl => ?_)
                refine lv_goto (tgt := 128) hx hb dMH_turned_172 (by decide) ?_
                exact ih23 (i23 + 1) pl ls H locs (by omega) (lv_sub hl [0, 2, 3] rfl) hO hP hD hS
              · refine lv_lload hx hb dMH_turned_156 (lv_at hl 0 rfl) ?_
                refine lv_ldc2 (v := (8380417)) hx hb hown (hts _ (wg_t kw_1738)) dMH_turned_158 ?_
                refine lv_ladd hx hb dMH_turned_161 ?_
                refine ml_any (fun y23 => ?_)
                refine lv_goto (tgt := 167) hx hb dMH_turned_162 (by decide) ?_
                refine lv_l2i hx hb dMH_turned_167 rfl ?_
                refine mi_any (fun z23 => ?_)
                refine ty_iast hx hb hK hO k_to (nxg hc0 k_to rfl) hP hD hS (vp_in_nI (by omega) (by decide)) dMH_turned_168 (fun pl H locs hO hP hD hS => ?_)
                refine mi_iinc (k := 1) (x := i23) (d := 1) (y := i23 + 1) (lv' := [(3, .int (nI (i23 + 1))), (4, .long y22), (0, .ref h0), (2, .ref to)]) hx hb dMH_turned_169 hl rfl (by decide) rfl (by decide) rfl (fun ls hl => ?_)
                refine lv_goto (tgt := 128) hx hb dMH_turned_172 (by decide) ?_
                exact ih23 (i23 + 1) pl ls H locs (by omega) (lv_sub hl [0, 2, 3] rfl) hO hP hD hS
          exact lp23 256 0 pl ls _ _ (by omega) (lv_sub hl [0, 1, 3] rfl) hO hP hD hS
        | succ n22 ih22 =>
          intro i22 pl ls H locs hm22  hl hO hP hD hS
          refine lv_iload_n hx hb dMH_turned_24 rfl (lv_at hl 0 rfl) ?_
          refine lv_sipush (v := nI 256) hx hb dMH_turned_25 (by decide) ?_
          refine mi_ge (tgt := 126) hx hb dMH_turned_28 (by decide) (by omega) (by omega) (fun h26 => absurd h26 (by omega)) (fun h26 => ?_)
          refine lv_aload_n hx hb dMH_turned_31 rfl (lv_at hl 1 rfl) ?_
          refine ty_get (ci := 12) (C := "LatticeKeysModel$Hands") (TT := T_MH) (N := 31) (kd := (47, 0)) hx hb hts (wg_ft i_MH) hown hK hO k_h0 (nxg hc0 k_h0 rfl) hP (fun _ h9 => h9) rfl 12 (by decide) (hts _ (wg_t kw_1444)) (fun _ h9 => h9) (cd := (3, 0, 256)) rfl dMH_turned_32 (fun v22 hv22 => ?_)
          obtain ⟨r22, rfl, kr22⟩ := (show ∃ r : Nat, v22 = .ref r ∧ T r = some (0, 256) from hv22)
          refine lv_iload_n hx hb dMH_turned_35 rfl (lv_at hl 0 rfl) ?_
          refine ty_iald hx hb hK hO kr22 (nxg hc0 kr22 rfl) hP (vp_in_nI (by omega) (by decide)) dMH_turned_36 (fun z24 => ?_)
          refine lv_if_ne (tgt := 43) hx hb dMH_turned_37 (by decide) (fun h27 => ?_) (fun h27 => ?_)
          · refine lv_iconst (v := nI 0) hx hb dMH_turned_43 (by decide) ?_
            refine lv_istore (lv' := [(4, .int (nI 0)), (3, .int (nI i22)), (0, .ref h0), (1, .ref f), (2, .ref to)]) hx hb dMH_turned_44 hl (by decide) rfl (fun ls hl => ?_)
            have lp24 : ∀ (n24 : Nat) (i24 : Nat) (pl : va_W) (ls : Array Slot) (H : Heap) (locs : List Loc), n24 + i24 = 256 → lv_has ls 8 [(4, .int (nI i24)), (3, .int (nI i22)), (0, .ref h0), (1, .ref f), (2, .ref to)] → okx g T xs pl → va_P g.1 vcl ([] ++ pl) H → va_D A ([] ++ pl) → va_S A s.heap H locs → W p l e ({ frames := 0, cells := 0, slots := 0, locals := 0 } : Room) s m args below meth c H locs 0 0 (MQ below (va_Qv (fun (u : va_W) => (True) ∧ okx g T xs u) (po g.1 vcl A (fun (u : va_W) => [] ++ u)) A) args s 0 0 A) (F0 m 46 ls []) := by
              intro n24
              induction n24 with
              | zero =>
                intro i24 pl ls H locs hm24  hl hO hP hD hS
                refine lv_iload hx hb dMH_turned_46 (lv_at hl 0 rfl) ?_
                refine lv_sipush (v := nI 256) hx hb dMH_turned_48 (by decide) ?_
                refine mi_ge (tgt := 120) hx hb dMH_turned_51 (by decide) (by omega) (by omega) (fun h28 => ?_) (fun h28 => absurd h28 (by omega))
                refine mi_iinc (k := 1) (x := i22) (d := 1) (y := i22 + 1) (lv' := [(3, .int (nI (i22 + 1))), (4, .int (nI i24)), (0, .ref h0), (1, .ref f), (2, .ref to)]) hx hb dMH_turned_120 hl rfl (by decide) rfl (by decide) rfl (fun ls hl => ?_)
                refine lv_goto (tgt := 24) hx hb dMH_turned_123 (by decide) ?_
                exact ih22 (i22 + 1) pl ls H locs (by omega) (lv_sub hl [0, 2, 3, 4] rfl) hO hP hD hS
              | succ n24 ih24 =>
                intro i24 pl ls H locs hm24  hl hO hP hD hS
                refine lv_iload hx hb dMH_turned_46 (lv_at hl 0 rfl) ?_
                refine lv_sipush (v := nI 256) hx hb dMH_turned_48 (by decide) ?_
                refine mi_ge (tgt := 120) hx hb dMH_turned_51 (by decide) (by omega) (by omega) (fun h29 => absurd h29 (by omega)) (fun h29 => ?_)
                refine lv_iload_n hx hb dMH_turned_54 rfl (lv_at hl 1 rfl) ?_
                refine lv_iload hx hb dMH_turned_55 (lv_at hl 0 rfl) ?_
                refine mi_iadd hx hb dMH_turned_57 ?_
                refine lv_istore (lv' := [(5, .int (nI (i22 + i24))), (4, .int (nI i24)), (3, .int (nI i22)), (0, .ref h0), (1, .ref f), (2, .ref to)]) hx hb dMH_turned_58 hl (by decide) rfl (fun ls hl => ?_)
                refine lv_aload_n hx hb dMH_turned_60 rfl (lv_at hl 3 rfl) ?_
                refine ty_get (ci := 12) (C := "LatticeKeysModel$Hands") (TT := T_MH) (N := 31) (kd := (47, 0)) hx hb hts (wg_ft i_MH) hown hK hO k_h0 (nxg hc0 k_h0 rfl) hP (fun _ h9 => h9) rfl 12 (by decide) (hts _ (wg_t kw_1444)) (fun _ h9 => h9) (cd := (3, 0, 256)) rfl dMH_turned_61 (fun v23 hv23 => ?_)
                obtain ⟨r23, rfl, kr23⟩ := (show ∃ r : Nat, v23 = .ref r ∧ T r = some (0, 256) from hv23)
                refine lv_iload_n hx hb dMH_turned_64 rfl (lv_at hl 2 rfl) ?_
                refine ty_iald hx hb hK hO kr23 (nxg hc0 kr23 rfl) hP (vp_in_nI (by omega) (by decide)) dMH_turned_65 (fun z25 => ?_)
                refine lv_i2l hx hb dMH_turned_66 rfl ?_
                refine ml_any (fun y24 => ?_)
                refine lv_aload_n hx hb dMH_turned_67 rfl (lv_at hl 4 rfl) ?_
                refine lv_iload hx hb dMH_turned_68 (lv_at hl 1 rfl) ?_
                refine ty_iald hx hb hK hO k_f (nxg hc0 k_f rfl) hP (vp_in_nI (by omega) (by decide)) dMH_turned_70 (fun z26 => ?_)
                refine lv_i2l hx hb dMH_turned_71 rfl ?_
                refine ml_any (fun y25 => ?_)
                refine lv_lmul hx hb dMH_turned_72 ?_
                refine ml_any (fun y26 => ?_)
                refine lv_lstore (lv' := [(6, .long y26), (5, .int (nI (i22 + i24))), (4, .int (nI i24)), (3, .int (nI i22)), (0, .ref h0), (1, .ref f), (2, .ref to)]) hx hb dMH_turned_73 hl (by decide) rfl (fun ls hl => ?_)
                refine lv_iload hx hb dMH_turned_75 (lv_at hl 1 rfl) ?_
                refine lv_sipush (v := nI 256) hx hb dMH_turned_77 (by decide) ?_
                refine mi_ge (tgt := 98) hx hb dMH_turned_80 (by decide) (by omega) (by omega) (fun h30 => ?_) (fun h30 => ?_)
                · refine lv_aload_n hx hb dMH_turned_98 rfl (lv_at hl 4 rfl) ?_
                  refine ty_get (ci := 12) (C := "LatticeKeysModel$Hands") (TT := T_MH) (N := 31) (kd := (47, 0)) hx hb hts (wg_ft i_MH) hown hK hO k_h0 (nxg hc0 k_h0 rfl) hP (fun _ h9 => h9) rfl 15 (by decide) (hts _ (wg_t kw_1447)) (fun _ h9 => h9) (cd := (3, 2, 256)) rfl dMH_turned_99 (fun v24 hv24 => ?_)
                  obtain ⟨r24, rfl, kr24⟩ := (show ∃ r : Nat, v24 = .ref r ∧ T r = some (2, 256) from hv24)
                  refine lv_iload hx hb dMH_turned_102 (lv_at hl 1 rfl) ?_
                  refine lv_sipush (v := nI 256) hx hb dMH_turned_104 (by decide) ?_
                  refine mi_isub hx hb dMH_turned_107 (by omega) ?_
                  refine lv_dup2_11 hx hb dMH_turned_108 rfl rfl ?_
                  refine ty_lald hx hb hK hO kr24 (nxg hc0 kr24 rfl) hP (vp_in_nI (by omega) (by decide)) dMH_turned_109 (fun y27 => ?_)
                  refine lv_lload hx hb dMH_turned_110 (lv_at hl 0 rfl) ?_
                  refine lv_lsub hx hb dMH_turned_112 ?_
                  refine ml_any (fun y28 => ?_)
                  refine ty_last hx hb hK hO kr24 (nxg hc0 kr24 rfl) hP hD hS (vp_in_nI (by omega) (by decide)) dMH_turned_113 (fun pl H locs hO hP hD hS => ?_)
                  refine mi_iinc (k := 2) (x := i24) (d := 1) (y := i24 + 1) (lv' := [(4, .int (nI (i24 + 1))), (6, .long y26), (5, .int (nI (i22 + i24))), (3, .int (nI i22)), (0, .ref h0), (1, .ref f), (2, .ref to)]) hx hb dMH_turned_114 hl rfl (by decide) rfl (by decide) rfl (fun ls hl => ?_)
                  refine lv_goto (tgt := 46) hx hb dMH_turned_117 (by decide) ?_
                  exact ih24 (i24 + 1) pl ls H locs (by omega) (lv_sub hl [0, 3, 4, 5, 6] rfl) hO hP hD hS
                · refine lv_aload_n hx hb dMH_turned_83 rfl (lv_at hl 4 rfl) ?_
                  refine ty_get (ci := 12) (C := "LatticeKeysModel$Hands") (TT := T_MH) (N := 31) (kd := (47, 0)) hx hb hts (wg_ft i_MH) hown hK hO k_h0 (nxg hc0 k_h0 rfl) hP (fun _ h9 => h9) rfl 15 (by decide) (hts _ (wg_t kw_1447)) (fun _ h9 => h9) (cd := (3, 2, 256)) rfl dMH_turned_84 (fun v25 hv25 => ?_)
                  obtain ⟨r25, rfl, kr25⟩ := (show ∃ r : Nat, v25 = .ref r ∧ T r = some (2, 256) from hv25)
                  refine lv_iload hx hb dMH_turned_87 (lv_at hl 1 rfl) ?_
                  refine lv_dup2_11 hx hb dMH_turned_89 rfl rfl ?_
                  refine ty_lald hx hb hK hO kr25 (nxg hc0 kr25 rfl) hP (vp_in_nI (by omega) (by decide)) dMH_turned_90 (fun y29 => ?_)
                  refine lv_lload hx hb dMH_turned_91 (lv_at hl 0 rfl) ?_
                  refine lv_ladd hx hb dMH_turned_93 ?_
                  refine ml_any (fun y30 => ?_)
                  refine ty_last hx hb hK hO kr25 (nxg hc0 kr25 rfl) hP hD hS (vp_in_nI (by omega) (by decide)) dMH_turned_94 (fun pl H locs hO hP hD hS => ?_)
                  refine lv_goto (tgt := 114) hx hb dMH_turned_95 (by decide) ?_
                  refine mi_iinc (k := 2) (x := i24) (d := 1) (y := i24 + 1) (lv' := [(4, .int (nI (i24 + 1))), (6, .long y26), (5, .int (nI (i22 + i24))), (3, .int (nI i22)), (0, .ref h0), (1, .ref f), (2, .ref to)]) hx hb dMH_turned_114 hl rfl (by decide) rfl (by decide) rfl (fun ls hl => ?_)
                  refine lv_goto (tgt := 46) hx hb dMH_turned_117 (by decide) ?_
                  exact ih24 (i24 + 1) pl ls H locs (by omega) (lv_sub hl [0, 3, 4, 5, 6] rfl) hO hP hD hS
            exact lp24 256 0 pl ls _ _ (by omega) (lv_sub hl [0, 1, 2, 3, 4] rfl) hO hP hD hS
          · refine lv_goto (tgt := 120) hx hb dMH_turned_40 (by decide) ?_
            refine mi_iinc (k := 0) (x := i22) (d := 1) (y := i22 + 1) (lv' := [(3, .int (nI (i22 + 1))), (0, .ref h0), (1, .ref f), (2, .ref to)]) hx hb dMH_turned_120 hl rfl (by decide) rfl (by decide) rfl (fun ls hl => ?_)
            refine lv_goto (tgt := 24) hx hb dMH_turned_123 (by decide) ?_
            exact ih22 (i22 + 1) pl ls H locs (by omega) (lv_sub hl [0, 1, 2, 3] rfl) hO hP hD hS
      exact lp22 256 0 pl ls _ _ (by omega) (lv_sub hl [0, 1, 2, 3] rfl) hO hP hD hS
    | succ n21 ih21 =>
      intro i21 pl ls H locs hm21  hl hO hP hD hS
      refine lv_iload_n hx hb dMH_turned_2 rfl (lv_at hl 0 rfl) ?_
      refine lv_sipush (v := nI 256) hx hb dMH_turned_3 (by decide) ?_
      refine mi_ge (tgt := 22) hx hb dMH_turned_6 (by decide) (by omega) (by omega) (fun h31 => absurd h31 (by omega)) (fun h31 => ?_)
      refine lv_aload_n hx hb dMH_turned_9 rfl (lv_at hl 1 rfl) ?_
      refine ty_get (ci := 12) (C := "LatticeKeysModel$Hands") (TT := T_MH) (N := 31) (kd := (47, 0)) hx hb hts (wg_ft i_MH) hown hK hO k_h0 (nxg hc0 k_h0 rfl) hP (fun _ h9 => h9) rfl 15 (by decide) (hts _ (wg_t kw_1447)) (fun _ h9 => h9) (cd := (3, 2, 256)) rfl dMH_turned_10 (fun v26 hv26 => ?_)
      obtain ⟨r26, rfl, kr26⟩ := (show ∃ r : Nat, v26 = .ref r ∧ T r = some (2, 256) from hv26)
      refine lv_iload_n hx hb dMH_turned_13 rfl (lv_at hl 0 rfl) ?_
      refine lv_lconst (v := 0) hx hb dMH_turned_14 (by decide) ?_
      refine ty_last hx hb hK hO kr26 (nxg hc0 kr26 rfl) hP hD hS (vp_in_nI (by omega) (by decide)) dMH_turned_15 (fun pl H locs hO hP hD hS => ?_)
      refine mi_iinc (k := 0) (x := i21) (d := 1) (y := i21 + 1) (lv' := [(3, .int (nI (i21 + 1))), (0, .ref h0), (1, .ref f), (2, .ref to)]) hx hb dMH_turned_16 hl rfl (by decide) rfl (by decide) rfl (fun ls hl => ?_)
      refine lv_goto (tgt := 2) hx hb dMH_turned_19 (by decide) ?_
      exact ih21 (i21 + 1) pl ls H locs (by omega) (lv_sub hl [0, 1, 2, 3] rfl) hO hP hD hS
  exact lp21 256 0 pl ls _ _ (by omega) (lv_sub hl [0, 1, 2, 3] rfl) hO hP hD hS
set_option maxHeartbeats 400000 in
set_option maxRecDepth 100000 in
theorem t_MH_turned_2 (l : Launch) (g : Gd) (sz : Nat) (T : Ty) (xs : List Nat) (pl : va_W) (hO : okx g T xs pl) (hU : uni T) (hc0 : clo T xs 0) (h0 f to : Nat) (k_h0 : T h0 = some (48, 0)) (k_f : T f = some (0, 256)) (k_to : T to = some (0, 256))  : Met l y_MH_turned w_MH_turned ({ frames := 0, cells := 0, slots := 0, locals := 0 } : Room) (va_Pc [.ref h0, .ref f, .ref to] (pr (en g) g.1 vcl sz ([] ++ pl))) (va_Qv (fun (u : va_W) => (True) ∧ okx g T xs u) (po g.1 vcl (va_A ([] ++ pl) sz) (fun (u : va_W) => [] ++ u)) (va_A ([] ++ pl) sz)) 0 0 (va_A ([] ++ pl) sz) := by
  refine mc_entry (cc := c_MH_turned) (maxL := 8) (ret := none) (by decide) rfl (Nat.le_of_ble_eq_true rfl) ?_
  intro p e s m args below meth c ls F hr hlk hnm hsz hP hD hE hA hl
  obtain ⟨hx, hb, hml, hown, hts⟩ := id F
  have hK := hE.1
  generalize va_A ([] ++ pl) sz = A at hD hE hA ⊢
  have hS : va_S A s.heap s.heap [] := va_S.rf
  have hl : lv_has ls 8 [(0, .ref h0), (1, .ref f), (2, .ref to)] := hl
  refine lv_iconst (v := nI 0) hx hb dMH_turned_0 (by decide) ?_
  refine lv_istore_n (lv' := [(3, .int (nI 0)), (0, .ref h0), (1, .ref f), (2, .ref to)]) hx hb dMH_turned_1 rfl hl (by decide) rfl (fun ls hl => ?_)
  have lp21 : ∀ (n21 : Nat) (i21 : Nat) (pl : va_W) (ls : Array Slot) (H : Heap) (locs : List Loc), n21 + i21 = 256 → lv_has ls 8 [(3, .int (nI i21)), (0, .ref h0), (1, .ref f), (2, .ref to)] → okx g T xs pl → va_P g.1 vcl ([] ++ pl) H → va_D A ([] ++ pl) → va_S A s.heap H locs → W p l e ({ frames := 0, cells := 0, slots := 0, locals := 0 } : Room) s m args below meth c H locs 0 0 (MQ below (va_Qv (fun (u : va_W) => (True) ∧ okx g T xs u) (po g.1 vcl A (fun (u : va_W) => [] ++ u)) A) args s 0 0 A) (F0 m 2 ls []) := by
    intro n21
    induction n21 with
    | zero =>
      intro i21 pl ls H locs hm21  hl hO hP hD hS
      refine lv_iload_n hx hb dMH_turned_2 rfl (lv_at hl 0 rfl) ?_
      refine lv_sipush (v := nI 256) hx hb dMH_turned_3 (by decide) ?_
      refine mi_ge (tgt := 22) hx hb dMH_turned_6 (by decide) (by omega) (by omega) (fun h21 => ?_) (fun h21 => absurd h21 (by omega))
      refine lv_iconst (v := nI 0) hx hb dMH_turned_22 (by decide) ?_
      refine lv_istore_n (lv' := [(3, .int (nI 0)), (0, .ref h0), (1, .ref f), (2, .ref to)]) hx hb dMH_turned_23 rfl hl (by decide) rfl (fun ls hl => ?_)
      have lp22 : ∀ (n22 : Nat) (i22 : Nat) (pl : va_W) (ls : Array Slot) (H : Heap) (locs : List Loc), n22 + i22 = 256 → lv_has ls 8 [(3, .int (nI i22)), (0, .ref h0), (1, .ref f), (2, .ref to)] → okx g T xs pl → va_P g.1 vcl ([] ++ pl) H → va_D A ([] ++ pl) → va_S A s.heap H locs → W p l e ({ frames := 0, cells := 0, slots := 0, locals := 0 } : Room) s m args below meth c H locs 0 0 (MQ below (va_Qv (fun (u : va_W) => (True) ∧ okx g T xs u) (po g.1 vcl A (fun (u : va_W) => [] ++ u)) A) args s 0 0 A) (F0 m 24 ls []) := by
        intro n22
        induction n22 with
        | zero =>
          intro i22 pl ls H locs hm22  hl hO hP hD hS
          refine lv_iload_n hx hb dMH_turned_24 rfl (lv_at hl 0 rfl) ?_
          refine lv_sipush (v := nI 256) hx hb dMH_turned_25 (by decide) ?_
          refine mi_ge (tgt := 126) hx hb dMH_turned_28 (by decide) (by omega) (by omega) (fun h22 => ?_) (fun h22 => absurd h22 (by omega))
          refine lv_iconst (v := nI 0) hx hb dMH_turned_126 (by decide) ?_
          refine lv_istore_n (lv' := [(3, .int (nI 0)), (0, .ref h0), (1, .ref f), (2, .ref to)]) hx hb dMH_turned_127 rfl hl (by decide) rfl (fun ls hl => ?_)
          have lp23 : ∀ (n23 : Nat) (i23 : Nat) (pl : va_W) (ls : Array Slot) (H : Heap) (locs : List Loc), n23 + i23 = 256 → lv_has ls 8 [(3, .int (nI i23)), (0, .ref h0), (2, .ref to)] → okx g T xs pl → va_P g.1 vcl ([] ++ pl) H → va_D A ([] ++ pl) → va_S A s.heap H locs → W p l e ({ frames := 0, cells := 0, slots := 0, locals := 0 } : Room) s m args below meth c H locs 0 0 (MQ below (va_Qv (fun (u : va_W) => (True) ∧ okx g T xs u) (po g.1 vcl A (fun (u : va_W) => [] ++ u)) A) args s 0 0 A) (F0 m 128 ls []) := by
            intro n23
            induction n23 with
            | zero =>
              intro i23 pl ls H locs hm23  hl hO hP hD hS
              refine lv_iload_n hx hb dMH_turned_128 rfl (lv_at hl 0 rfl) ?_
              refine lv_sipush (v := nI 256) hx hb dMH_turned_129 (by decide) ?_
              refine mi_ge (tgt := 175) hx hb dMH_turned_132 (by decide) (by omega) (by omega) (fun h23 => ?_) (fun h23 => absurd h23 (by omega))
              exact mp_vret hx hb hr hlk hP hD hS pl ⟨trivial, hO⟩ [] rfl rfl rfl (by omega) (by omega) dMH_turned_175
            | succ n23 ih23 =>
              intro i23 pl ls H locs hm23  hl hO hP hD hS
              refine lv_iload_n hx hb dMH_turned_128 rfl (lv_at hl 0 rfl) ?_
              refine lv_sipush (v := nI 256) hx hb dMH_turned_129 (by decide) ?_
              refine mi_ge (tgt := 175) hx hb dMH_turned_132 (by decide) (by omega) (by omega) (fun h24 => absurd h24 (by omega)) (fun h24 => ?_)
              refine lv_aload_n hx hb dMH_turned_135 rfl (lv_at hl 1 rfl) ?_
              refine ty_get (ci := 12) (C := "LatticeKeysModel$Hands") (TT := T_MH) (N := 31) (kd := (48, 0)) hx hb hts (wg_ft i_MH) hown hK hO k_h0 (nxg hc0 k_h0 rfl) hP (fun _ h9 => h9) rfl 15 (by decide) (hts _ (wg_t kw_1447)) (fun _ h9 => h9) (cd := (3, 2, 256)) rfl dMH_turned_136 (fun v21 hv21 => ?_)
              obtain ⟨r21, rfl, kr21⟩ := (show ∃ r : Nat, v21 = .ref r ∧ T r = some (2, 256) from hv21)
              refine lv_iload_n hx hb dMH_turned_139 rfl (lv_at hl 0 rfl) ?_
              refine ty_lald hx hb hK hO kr21 (nxg hc0 kr21 rfl) hP (vp_in_nI (by omega) (by decide)) dMH_turned_140 (fun y21 => ?_)
              refine lv_ldc2 (v := (8380417)) hx hb hown (hts _ (wg_t kw_1738)) dMH_turned_141 ?_
              refine lv_lrem hx hb dMH_turned_144 (by decide) ?_
              refine ml_any (fun y22 => ?_)
              refine lv_lstore (lv' := [(4, .long y22), (3, .int (nI i23)), (0, .ref h0), (2, .ref to)]) hx hb dMH_turned_145 hl (by decide) rfl (fun ls hl => ?_)
              refine lv_aload_n hx hb dMH_turned_147 rfl (lv_at hl 3 rfl) ?_
              refine lv_iload_n hx hb dMH_turned_148 rfl (lv_at hl 1 rfl) ?_
              refine lv_lload hx hb dMH_turned_149 (lv_at hl 0 rfl) ?_
              refine lv_lconst (v := 0) hx hb dMH_turned_151 (by decide) ?_
              refine W.lcmp hx hb dMH_turned_152 ?_
              refine mi_any (fun z21 => ?_)
              refine lv_if_ge (tgt := 165) hx hb dMH_turned_153 (by decide) (fun h25 => ?_) (fun h25 => ?_)
              · refine lv_lload hx hb dMH_turned_165 (lv_at hl 0 rfl) ?_
                refine lv_l2i hx hb dMH_turned_167 rfl ?_
                refine mi_any (fun z22 => ?_)
                refine ty_iast hx hb hK hO k_to (nxg hc0 k_to rfl) hP hD hS (vp_in_nI (by omega) (by decide)) dMH_turned_168 (fun pl H locs hO hP hD hS => ?_)
                refine mi_iinc (k := 1) (x := i23) (d := 1) (y := i23 + 1) (lv' := [(3, .int (nI (i23 + 1))), (4, .long y22), (0, .ref h0), (2, .ref to)]) hx hb dMH_turned_169 hl rfl (by decide) rfl (by decide) rfl (fun ls hl => ?_)
                refine lv_goto (tgt := 128) hx hb dMH_turned_172 (by decide) ?_
                exact ih23 (i23 + 1) pl ls H locs (by omega) (lv_sub hl [0, 2, 3] rfl) hO hP hD hS
              · refine lv_lload hx hb dMH_turned_156 (lv_at hl 0 rfl) ?_
                refine lv_ldc2 (v := (8380417)) hx hb hown (hts _ (wg_t kw_1738)) dMH_turned_158 ?_
                refine lv_ladd hx hb dMH_turned_161 ?_
                refine ml_any (fun y23 => ?_)
                refine lv_goto (tgt := 167) hx hb dMH_turned_162 (by decide) ?_
                refine lv_l2i hx hb dMH_turned_167 rfl ?_
                refine mi_any (fun z23 => ?_)
                refine ty_iast hx hb hK hO k_to (nxg hc0 k_to rfl) hP hD hS (vp_in_nI (by omega) (by decide)) dMH_turned_168 (fun pl H locs hO hP hD hS => ?_)
                refine mi_iinc (k := 1) (x := i23) (d := 1) (y := i23 + 1) (lv' := [(3, .int (nI (i23 + 1))), (4, .long y22), (0, .ref h0), (2, .ref to)]) hx hb dMH_turned_169 hl rfl (by decide) rfl (by decide) rfl (fun ls hl => ?_)
                refine lv_goto (tgt := 128) hx hb dMH_turned_172 (by decide) ?_
                exact ih23 (i23 + 1) pl ls H locs (by omega) (lv_sub hl [0, 2, 3] rfl) hO hP hD hS
          exact lp23 256 0 pl ls _ _ (by omega) (lv_sub hl [0, 1, 3] rfl) hO hP hD hS
        | succ n22 ih22 =>
          intro i22 pl ls H locs hm22  hl hO hP hD hS
          refine lv_iload_n hx hb dMH_turned_24 rfl (lv_at hl 0 rfl) ?_
          refine lv_sipush (v := nI 256) hx hb dMH_turned_25 (by decide) ?_
          refine mi_ge (tgt := 126) hx hb dMH_turned_28 (by decide) (by omega) (by omega) (fun h26 => absurd h26 (by omega)) (fun h26 => ?_)
          refine lv_aload_n hx hb dMH_turned_31 rfl (lv_at hl 1 rfl) ?_
          refine ty_get (ci := 12) (C := "LatticeKeysModel$Hands") (TT := T_MH) (N := 31) (kd := (48, 0)) hx hb hts (wg_ft i_MH) hown hK hO k_h0 (nxg hc0 k_h0 rfl) hP (fun _ h9 => h9) rfl 12 (by decide) (hts _ (wg_t kw_1444)) (fun _ h9 => h9) (cd := (3, 0, 256)) rfl dMH_turned_32 (fun v22 hv22 => ?_)
          obtain ⟨r22, rfl, kr22⟩ := (show ∃ r : Nat, v22 = .ref r ∧ T r = some (0, 256) from hv22)
          refine lv_iload_n hx hb dMH_turned_35 rfl (lv_at hl 0 rfl) ?_
          refine ty_iald hx hb hK hO kr22 (nxg hc0 kr22 rfl) hP (vp_in_nI (by omega) (by decide)) dMH_turned_36 (fun z24 => ?_)
          refine lv_if_ne (tgt := 43) hx hb dMH_turned_37 (by decide) (fun h27 => ?_) (fun h27 => ?_)
          · refine lv_iconst (v := nI 0) hx hb dMH_turned_43 (by decide) ?_
            refine lv_istore (lv' := [(4, .int (nI 0)), (3, .int (nI i22)), (0, .ref h0), (1, .ref f), (2, .ref to)]) hx hb dMH_turned_44 hl (by decide) rfl (fun ls hl => ?_)
            have lp24 : ∀ (n24 : Nat) (i24 : Nat) (pl : va_W) (ls : Array Slot) (H : Heap) (locs : List Loc), n24 + i24 = 256 → lv_has ls 8 [(4, .int (nI i24)), (3, .int (nI i22)), (0, .ref h0), (1, .ref f), (2, .ref to)] → okx g T xs pl → va_P g.1 vcl ([] ++ pl) H → va_D A ([] ++ pl) → va_S A s.heap H locs → W p l e ({ frames := 0, cells := 0, slots := 0, locals := 0 } : Room) s m args below meth c H locs 0 0 (MQ below (va_Qv (fun (u : va_W) => (True) ∧ okx g T xs u) (po g.1 vcl A (fun (u : va_W) => [] ++ u)) A) args s 0 0 A) (F0 m 46 ls []) := by
              intro n24
              induction n24 with
              | zero =>
                intro i24 pl ls H locs hm24  hl hO hP hD hS
                refine lv_iload hx hb dMH_turned_46 (lv_at hl 0 rfl) ?_
                refine lv_sipush (v := nI 256) hx hb dMH_turned_48 (by decide) ?_
                refine mi_ge (tgt := 120) hx hb dMH_turned_51 (by decide) (by omega) (by omega) (fun h28 => ?_) (fun h28 => absurd h28 (by omega))
                refine mi_iinc (k := 1) (x := i22) (d := 1) (y := i22 + 1) (lv' := [(3, .int (nI (i22 + 1))), (4, .int (nI i24)), (0, .ref h0), (1, .ref f), (2, .ref to)]) hx hb dMH_turned_120 hl rfl (by decide) rfl (by decide) rfl (fun ls hl => ?_)
                refine lv_goto (tgt := 24) hx hb dMH_turned_123 (by decide) ?_
                exact ih22 (i22 + 1) pl ls H locs (by omega) (lv_sub hl [0, 2, 3, 4] rfl) hO hP hD hS
              | succ n24 ih24 =>
                intro i24 pl ls H locs hm24  hl hO hP hD hS
                refine lv_iload hx hb dMH_turned_46 (lv_at hl 0 rfl) ?_
                refine lv_sipush (v := nI 256) hx hb dMH_turned_48 (by decide) ?_
                refine mi_ge (tgt := 120) hx hb dMH_turned_51 (by decide) (by omega) (by omega) (fun h29 => absurd h29 (by omega)) (fun h29 => ?_)
                refine lv_iload_n hx hb dMH_turned_54 rfl (lv_at hl 1 rfl) ?_
                refine lv_iload hx hb dMH_turned_55 (lv_at hl 0 rfl) ?_
                refine mi_iadd hx hb dMH_turned_57 ?_
                refine lv_istore (lv' := [(5, .int (nI (i22 + i24))), (4, .int (nI i24)), (3, .int (nI i22)), (0, .ref h0), (1, .ref f), (2, .ref to)]) hx hb dMH_turned_58 hl (by decide) rfl (fun ls hl => ?_)
                refine lv_aload_n hx hb dMH_turned_60 rfl (lv_at hl 3 rfl) ?_
                refine ty_get (ci := 12) (C := "LatticeKeysModel$Hands") (TT := T_MH) (N := 31) (kd := (48, 0)) hx hb hts (wg_ft i_MH) hown hK hO k_h0 (nxg hc0 k_h0 rfl) hP (fun _ h9 => h9) rfl 12 (by decide) (hts _ (wg_t kw_1444)) (fun _ h9 => h9) (cd := (3, 0, 256)) rfl dMH_turned_61 (fun v23 hv23 => ?_)
                obtain ⟨r23, rfl, kr23⟩ := (show ∃ r : Nat, v23 = .ref r ∧ T r = some (0, 256) from hv23)
                refine lv_iload_n hx hb dMH_turned_64 rfl (lv_at hl 2 rfl) ?_
                refine ty_iald hx hb hK hO kr23 (nxg hc0 kr23 rfl) hP (vp_in_nI (by omega) (by decide)) dMH_turned_65 (fun z25 => ?_)
                refine lv_i2l hx hb dMH_turned_66 rfl ?_
                refine ml_any (fun y24 => ?_)
                refine lv_aload_n hx hb dMH_turned_67 rfl (lv_at hl 4 rfl) ?_
                refine lv_iload hx hb dMH_turned_68 (lv_at hl 1 rfl) ?_
                refine ty_iald hx hb hK hO k_f (nxg hc0 k_f rfl) hP (vp_in_nI (by omega) (by decide)) dMH_turned_70 (fun z26 => ?_)
                refine lv_i2l hx hb dMH_turned_71 rfl ?_
                refine ml_any (fun y25 => ?_)
                refine lv_lmul hx hb dMH_turned_72 ?_
                refine ml_any (fun y26 => ?_)
                refine lv_lstore (lv' := [(6, .long y26), (5, .int (nI (i22 + i24))), (4, .int (nI i24)), (3, .int (nI i22)), (0, .ref h0), (1, .ref f), (2, .ref to)]) hx hb dMH_turned_73 hl (by decide) rfl (fun ls hl => ?_)
                refine lv_iload hx hb dMH_turned_75 (lv_at hl 1 rfl) ?_
                refine lv_sipush (v := nI 256) hx hb dMH_turned_77 (by decide) ?_
                refine mi_ge (tgt := 98) hx hb dMH_turned_80 (by decide) (by omega) (by omega) (fun h30 => ?_) (fun h30 => ?_)
                · refine lv_aload_n hx hb dMH_turned_98 rfl (lv_at hl 4 rfl) ?_
                  refine ty_get (ci := 12) (C := "LatticeKeysModel$Hands") (TT := T_MH) (N := 31) (kd := (48, 0)) hx hb hts (wg_ft i_MH) hown hK hO k_h0 (nxg hc0 k_h0 rfl) hP (fun _ h9 => h9) rfl 15 (by decide) (hts _ (wg_t kw_1447)) (fun _ h9 => h9) (cd := (3, 2, 256)) rfl dMH_turned_99 (fun v24 hv24 => ?_)
                  obtain ⟨r24, rfl, kr24⟩ := (show ∃ r : Nat, v24 = .ref r ∧ T r = some (2, 256) from hv24)
                  refine lv_iload hx hb dMH_turned_102 (lv_at hl 1 rfl) ?_
                  refine lv_sipush (v := nI 256) hx hb dMH_turned_104 (by decide) ?_
                  refine mi_isub hx hb dMH_turned_107 (by omega) ?_
                  refine lv_dup2_11 hx hb dMH_turned_108 rfl rfl ?_
                  refine ty_lald hx hb hK hO kr24 (nxg hc0 kr24 rfl) hP (vp_in_nI (by omega) (by decide)) dMH_turned_109 (fun y27 => ?_)
                  refine lv_lload hx hb dMH_turned_110 (lv_at hl 0 rfl) ?_
                  refine lv_lsub hx hb dMH_turned_112 ?_
                  refine ml_any (fun y28 => ?_)
                  refine ty_last hx hb hK hO kr24 (nxg hc0 kr24 rfl) hP hD hS (vp_in_nI (by omega) (by decide)) dMH_turned_113 (fun pl H locs hO hP hD hS => ?_)
                  refine mi_iinc (k := 2) (x := i24) (d := 1) (y := i24 + 1) (lv' := [(4, .int (nI (i24 + 1))), (6, .long y26), (5, .int (nI (i22 + i24))), (3, .int (nI i22)), (0, .ref h0), (1, .ref f), (2, .ref to)]) hx hb dMH_turned_114 hl rfl (by decide) rfl (by decide) rfl (fun ls hl => ?_)
                  refine lv_goto (tgt := 46) hx hb dMH_turned_117 (by decide) ?_
                  exact ih24 (i24 + 1) pl ls H locs (by omega) (lv_sub hl [0, 3, 4, 5, 6] rfl) hO hP hD hS
                · refine lv_aload_n hx hb dMH_turned_83 rfl (lv_at hl 4 rfl) ?_
                  refine ty_get (ci := 12) (C := "LatticeKeysModel$Hands") (TT := T_MH) (N := 31) (kd := (48, 0)) hx hb hts (wg_ft i_MH) hown hK hO k_h0 (nxg hc0 k_h0 rfl) hP (fun _ h9 => h9) rfl 15 (by decide) (hts _ (wg_t kw_1447)) (fun _ h9 => h9) (cd := (3, 2, 256)) rfl dMH_turned_84 (fun v25 hv25 => ?_)
                  obtain ⟨r25, rfl, kr25⟩ := (show ∃ r : Nat, v25 = .ref r ∧ T r = some (2, 256) from hv25)
                  refine lv_iload hx hb dMH_turned_87 (lv_at hl 1 rfl) ?_
                  refine lv_dup2_11 hx hb dMH_turned_89 rfl rfl ?_
                  refine ty_lald hx hb hK hO kr25 (nxg hc0 kr25 rfl) hP (vp_in_nI (by omega) (by decide)) dMH_turned_90 (fun y29 => ?_)
                  refine lv_lload hx hb dMH_turned_91 (lv_at hl 0 rfl) ?_
                  refine lv_ladd hx hb dMH_turned_93 ?_
                  refine ml_any (fun y30 => ?_)
                  refine ty_last hx hb hK hO kr25 (nxg hc0 kr25 rfl) hP hD hS (vp_in_nI (by omega) (by decide)) dMH_turned_94 (fun pl H locs hO hP hD hS => ?_)
                  refine lv_goto (tgt := 114) hx hb dMH_turned_95 (by decide) ?_
                  refine mi_iinc (k := 2) (x := i24) (d := 1) (y := i24 + 1) (lv' := [(4, .int (nI (i24 + 1))), (6, .long y26), (5, .int (nI (i22 + i24))), (3, .int (nI i22)), (0, .ref h0), (1, .ref f), (2, .ref to)]) hx hb dMH_turned_114 hl rfl (by decide) rfl (by decide) rfl (fun ls hl => ?_)
                  refine lv_goto (tgt := 46) hx hb dMH_turned_117 (by decide) ?_
                  exact ih24 (i24 + 1) pl ls H locs (by omega) (lv_sub hl [0, 3, 4, 5, 6] rfl) hO hP hD hS
            exact lp24 256 0 pl ls _ _ (by omega) (lv_sub hl [0, 1, 2, 3, 4] rfl) hO hP hD hS
          · refine lv_goto (tgt := 120) hx hb dMH_turned_40 (by decide) ?_
            refine mi_iinc (k := 0) (x := i22) (d := 1) (y := i22 + 1) (lv' := [(3, .int (nI (i22 + 1))), (0, .ref h0), (1, .ref f), (2, .ref to)]) hx hb dMH_turned_120 hl rfl (by decide) rfl (by decide) rfl (fun ls hl => ?_)
            refine lv_goto (tgt := 24) hx hb dMH_turned_123 (by decide) ?_
            exact ih22 (i22 + 1) pl ls H locs (by omega) (lv_sub hl [0, 1, 2, 3] rfl) hO hP hD hS
      exact lp22 256 0 pl ls _ _ (by omega) (lv_sub hl [0, 1, 2, 3] rfl) hO hP hD hS
    | succ n21 ih21 =>
      intro i21 pl ls H locs hm21  hl hO hP hD hS
      refine lv_iload_n hx hb dMH_turned_2 rfl (lv_at hl 0 rfl) ?_
      refine lv_sipush (v := nI 256) hx hb dMH_turned_3 (by decide) ?_
      refine mi_ge (tgt := 22) hx hb dMH_turned_6 (by decide) (by omega) (by omega) (fun h31 => absurd h31 (by omega)) (fun h31 => ?_)
      refine lv_aload_n hx hb dMH_turned_9 rfl (lv_at hl 1 rfl) ?_
      refine ty_get (ci := 12) (C := "LatticeKeysModel$Hands") (TT := T_MH) (N := 31) (kd := (48, 0)) hx hb hts (wg_ft i_MH) hown hK hO k_h0 (nxg hc0 k_h0 rfl) hP (fun _ h9 => h9) rfl 15 (by decide) (hts _ (wg_t kw_1447)) (fun _ h9 => h9) (cd := (3, 2, 256)) rfl dMH_turned_10 (fun v26 hv26 => ?_)
      obtain ⟨r26, rfl, kr26⟩ := (show ∃ r : Nat, v26 = .ref r ∧ T r = some (2, 256) from hv26)
      refine lv_iload_n hx hb dMH_turned_13 rfl (lv_at hl 0 rfl) ?_
      refine lv_lconst (v := 0) hx hb dMH_turned_14 (by decide) ?_
      refine ty_last hx hb hK hO kr26 (nxg hc0 kr26 rfl) hP hD hS (vp_in_nI (by omega) (by decide)) dMH_turned_15 (fun pl H locs hO hP hD hS => ?_)
      refine mi_iinc (k := 0) (x := i21) (d := 1) (y := i21 + 1) (lv' := [(3, .int (nI (i21 + 1))), (0, .ref h0), (1, .ref f), (2, .ref to)]) hx hb dMH_turned_16 hl rfl (by decide) rfl (by decide) rfl (fun ls hl => ?_)
      refine lv_goto (tgt := 2) hx hb dMH_turned_19 (by decide) ?_
      exact ih21 (i21 + 1) pl ls H locs (by omega) (lv_sub hl [0, 1, 2, 3] rfl) hO hP hD hS
  exact lp21 256 0 pl ls _ _ (by omega) (lv_sub hl [0, 1, 2, 3] rfl) hO hP hD hS
