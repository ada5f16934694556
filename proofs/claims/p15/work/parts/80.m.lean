abbrev c_M_fail : ByteArray := prog_12_method_5_code
abbrev y_M_fail : MethodName := ⟨"LatticeKeysModel", "fail", "(I)I"⟩
abbrev w_M_fail : List Cond := Cond.code y_M_fail c_M_fail 2 (some .int) :: WG
theorem dM_fail_0 : decode c_M_fail 0 = .ok (.aload_n 0, 1) := by decide +kernel
theorem dM_fail_1 : decode c_M_fail 1 = .ok (.iload_n 1, 1) := by decide +kernel
theorem dM_fail_2 : decode c_M_fail 2 = .ok (.putfield 57, 3) := by decide +kernel
theorem dM_fail_5 : decode c_M_fail 5 = .ok (.iconst 0, 1) := by decide +kernel
theorem dM_fail_6 : decode c_M_fail 6 = .ok (.ireturn, 1) := by decide +kernel
abbrev c_M_four : ByteArray := prog_12_method_8_code
abbrev y_M_four : MethodName := ⟨"LatticeKeysModel", "four", "(I)V"⟩
abbrev w_M_four : List Cond := Cond.code y_M_four c_M_four 3 none :: WG
theorem dM_four_0 : decode c_M_four 0 = .ok (.bipush 24, 2) := by decide +kernel
theorem dM_four_2 : decode c_M_four 2 = .ok (.istore_n 2, 1) := by decide +kernel
theorem dM_four_3 : decode c_M_four 3 = .ok (.iload_n 2, 1) := by decide +kernel
theorem dM_four_4 : decode c_M_four 4 = .ok (.ifCond .lt 32, 3) := by decide +kernel
theorem dM_four_7 : decode c_M_four 7 = .ok (.aload_n 0, 1) := by decide +kernel
theorem dM_four_8 : decode c_M_four 8 = .ok (.getfield 7, 3) := by decide +kernel
theorem dM_four_11 : decode c_M_four 11 = .ok (.aload_n 0, 1) := by decide +kernel
theorem dM_four_12 : decode c_M_four 12 = .ok (.getfield 70, 3) := by decide +kernel
theorem dM_four_15 : decode c_M_four 15 = .ok (.iload_n 1, 1) := by decide +kernel
theorem dM_four_16 : decode c_M_four 16 = .ok (.iload_n 2, 1) := by decide +kernel
theorem dM_four_17 : decode c_M_four 17 = .ok (.ishr, 1) := by decide +kernel
theorem dM_four_18 : decode c_M_four 18 = .ok (.i2b, 1) := by decide +kernel
theorem dM_four_19 : decode c_M_four 19 = .ok (.bastore, 1) := by decide +kernel
theorem dM_four_20 : decode c_M_four 20 = .ok (.aload_n 0, 1) := by decide +kernel
theorem dM_four_21 : decode c_M_four 21 = .ok (.dup, 1) := by decide +kernel
theorem dM_four_22 : decode c_M_four 22 = .ok (.getfield 70, 3) := by decide +kernel
theorem dM_four_25 : decode c_M_four 25 = .ok (.iconst 1, 1) := by decide +kernel
theorem dM_four_26 : decode c_M_four 26 = .ok (.iadd, 1) := by decide +kernel
theorem dM_four_27 : decode c_M_four 27 = .ok (.putfield 70, 3) := by decide +kernel
theorem dM_four_30 : decode c_M_four 30 = .ok (.iinc 2 (-8), 3) := by decide +kernel
theorem dM_four_33 : decode c_M_four 33 = .ok (.goto (-30), 3) := by decide +kernel
theorem dM_four_36 : decode c_M_four 36 = .ok (.return_, 1) := by decide +kernel
abbrev c_M_feed : ByteArray := prog_12_method_9_code
abbrev y_M_feed : MethodName := ⟨"LatticeKeysModel", "feed", "(IIIII)I"⟩
abbrev w_M_feed : List Cond := Cond.code y_M_feed c_M_feed 6 (some .int) :: WG
theorem dM_feed_0 : decode c_M_feed 0 = .ok (.aload_n 0, 1) := by decide +kernel
theorem dM_feed_1 : decode c_M_feed 1 = .ok (.iconst 0, 1) := by decide +kernel
theorem dM_feed_2 : decode c_M_feed 2 = .ok (.putfield 57, 3) := by decide +kernel
theorem dM_feed_5 : decode c_M_feed 5 = .ok (.aload_n 0, 1) := by decide +kernel
theorem dM_feed_6 : decode c_M_feed 6 = .ok (.getfield 70, 3) := by decide +kernel
theorem dM_feed_9 : decode c_M_feed 9 = .ok (.bipush 20, 2) := by decide +kernel
theorem dM_feed_11 : decode c_M_feed 11 = .ok (.iadd, 1) := by decide +kernel
theorem dM_feed_12 : decode c_M_feed 12 = .ok (.sipush 16384, 3) := by decide +kernel
theorem dM_feed_15 : decode c_M_feed 15 = .ok (.if_icmp .le 9, 3) := by decide +kernel
theorem dM_feed_18 : decode c_M_feed 18 = .ok (.aload_n 0, 1) := by decide +kernel
theorem dM_feed_19 : decode c_M_feed 19 = .ok (.iconst 1, 1) := by decide +kernel
theorem dM_feed_20 : decode c_M_feed 20 = .ok (.invokevirtual 73, 3) := by decide +kernel
theorem dM_feed_23 : decode c_M_feed 23 = .ok (.ireturn, 1) := by decide +kernel
theorem dM_feed_24 : decode c_M_feed 24 = .ok (.aload_n 0, 1) := by decide +kernel
theorem dM_feed_25 : decode c_M_feed 25 = .ok (.iload_n 1, 1) := by decide +kernel
theorem dM_feed_26 : decode c_M_feed 26 = .ok (.invokevirtual 76, 3) := by decide +kernel
theorem dM_feed_29 : decode c_M_feed 29 = .ok (.aload_n 0, 1) := by decide +kernel
theorem dM_feed_30 : decode c_M_feed 30 = .ok (.iload_n 2, 1) := by decide +kernel
theorem dM_feed_31 : decode c_M_feed 31 = .ok (.invokevirtual 76, 3) := by decide +kernel
theorem dM_feed_34 : decode c_M_feed 34 = .ok (.aload_n 0, 1) := by decide +kernel
theorem dM_feed_35 : decode c_M_feed 35 = .ok (.iload_n 3, 1) := by decide +kernel
theorem dM_feed_36 : decode c_M_feed 36 = .ok (.invokevirtual 76, 3) := by decide +kernel
theorem dM_feed_39 : decode c_M_feed 39 = .ok (.aload_n 0, 1) := by decide +kernel
theorem dM_feed_40 : decode c_M_feed 40 = .ok (.iload 4, 2) := by decide +kernel
theorem dM_feed_42 : decode c_M_feed 42 = .ok (.invokevirtual 76, 3) := by decide +kernel
theorem dM_feed_45 : decode c_M_feed 45 = .ok (.aload_n 0, 1) := by decide +kernel
theorem dM_feed_46 : decode c_M_feed 46 = .ok (.iload 5, 2) := by decide +kernel
theorem dM_feed_48 : decode c_M_feed 48 = .ok (.invokevirtual 76, 3) := by decide +kernel
theorem dM_feed_51 : decode c_M_feed 51 = .ok (.aload_n 0, 1) := by decide +kernel
theorem dM_feed_52 : decode c_M_feed 52 = .ok (.getfield 70, 3) := by decide +kernel
theorem dM_feed_55 : decode c_M_feed 55 = .ok (.ireturn, 1) := by decide +kernel
abbrev c_M_end : ByteArray := prog_12_method_10_code
abbrev y_M_end : MethodName := ⟨"LatticeKeysModel", "end", "(I)I"⟩
abbrev w_M_end : List Cond := Cond.code y_M_end c_M_end 2 (some .int) :: WG
theorem dM_end_0 : decode c_M_end 0 = .ok (.aload_n 0, 1) := by decide +kernel
theorem dM_end_1 : decode c_M_end 1 = .ok (.iconst 0, 1) := by decide +kernel
theorem dM_end_2 : decode c_M_end 2 = .ok (.putfield 57, 3) := by decide +kernel
theorem dM_end_5 : decode c_M_end 5 = .ok (.iload_n 1, 1) := by decide +kernel
theorem dM_end_6 : decode c_M_end 6 = .ok (.ifCond .lt 11, 3) := by decide +kernel
theorem dM_end_9 : decode c_M_end 9 = .ok (.iload_n 1, 1) := by decide +kernel
theorem dM_end_10 : decode c_M_end 10 = .ok (.aload_n 0, 1) := by decide +kernel
theorem dM_end_11 : decode c_M_end 11 = .ok (.getfield 70, 3) := by decide +kernel
theorem dM_end_14 : decode c_M_end 14 = .ok (.if_icmp .le 9, 3) := by decide +kernel
theorem dM_end_17 : decode c_M_end 17 = .ok (.aload_n 0, 1) := by decide +kernel
theorem dM_end_18 : decode c_M_end 18 = .ok (.iconst 1, 1) := by decide +kernel
theorem dM_end_19 : decode c_M_end 19 = .ok (.invokevirtual 73, 3) := by decide +kernel
theorem dM_end_22 : decode c_M_end 22 = .ok (.ireturn, 1) := by decide +kernel
theorem dM_end_23 : decode c_M_end 23 = .ok (.aload_n 0, 1) := by decide +kernel
theorem dM_end_24 : decode c_M_end 24 = .ok (.iload_n 1, 1) := by decide +kernel
theorem dM_end_25 : decode c_M_end 25 = .ok (.putfield 70, 3) := by decide +kernel
theorem dM_end_28 : decode c_M_end 28 = .ok (.iload_n 1, 1) := by decide +kernel
theorem dM_end_29 : decode c_M_end 29 = .ok (.ireturn, 1) := by decide +kernel
abbrev c_M_again : ByteArray := prog_12_method_11_code
abbrev y_M_again : MethodName := ⟨"LatticeKeysModel", "again", "()I"⟩
abbrev w_M_again : List Cond := Cond.code y_M_again c_M_again 2 (some .int) :: WG
theorem dM_again_0 : decode c_M_again 0 = .ok (.aload_n 0, 1) := by decide +kernel
theorem dM_again_1 : decode c_M_again 1 = .ok (.iconst 0, 1) := by decide +kernel
theorem dM_again_2 : decode c_M_again 2 = .ok (.putfield 57, 3) := by decide +kernel
theorem dM_again_5 : decode c_M_again 5 = .ok (.aload_n 0, 1) := by decide +kernel
theorem dM_again_6 : decode c_M_again 6 = .ok (.getfield 70, 3) := by decide +kernel
theorem dM_again_9 : decode c_M_again 9 = .ok (.aload_n 0, 1) := by decide +kernel
theorem dM_again_10 : decode c_M_again 10 = .ok (.getfield 80, 3) := by decide +kernel
theorem dM_again_13 : decode c_M_again 13 = .ok (.iadd, 1) := by decide +kernel
theorem dM_again_14 : decode c_M_again 14 = .ok (.sipush 16384, 3) := by decide +kernel
theorem dM_again_17 : decode c_M_again 17 = .ok (.if_icmp .le 9, 3) := by decide +kernel
theorem dM_again_20 : decode c_M_again 20 = .ok (.aload_n 0, 1) := by decide +kernel
theorem dM_again_21 : decode c_M_again 21 = .ok (.iconst 1, 1) := by decide +kernel
theorem dM_again_22 : decode c_M_again 22 = .ok (.invokevirtual 73, 3) := by decide +kernel
theorem dM_again_25 : decode c_M_again 25 = .ok (.ireturn, 1) := by decide +kernel
theorem dM_again_26 : decode c_M_again 26 = .ok (.iconst 0, 1) := by decide +kernel
theorem dM_again_27 : decode c_M_again 27 = .ok (.istore_n 1, 1) := by decide +kernel
theorem dM_again_28 : decode c_M_again 28 = .ok (.iload_n 1, 1) := by decide +kernel
theorem dM_again_29 : decode c_M_again 29 = .ok (.aload_n 0, 1) := by decide +kernel
theorem dM_again_30 : decode c_M_again 30 = .ok (.getfield 80, 3) := by decide +kernel
theorem dM_again_33 : decode c_M_again 33 = .ok (.if_icmp .ge 26, 3) := by decide +kernel
theorem dM_again_36 : decode c_M_again 36 = .ok (.aload_n 0, 1) := by decide +kernel
theorem dM_again_37 : decode c_M_again 37 = .ok (.getfield 7, 3) := by decide +kernel
theorem dM_again_40 : decode c_M_again 40 = .ok (.aload_n 0, 1) := by decide +kernel
theorem dM_again_41 : decode c_M_again 41 = .ok (.getfield 70, 3) := by decide +kernel
theorem dM_again_44 : decode c_M_again 44 = .ok (.iload_n 1, 1) := by decide +kernel
theorem dM_again_45 : decode c_M_again 45 = .ok (.iadd, 1) := by decide +kernel
theorem dM_again_46 : decode c_M_again 46 = .ok (.aload_n 0, 1) := by decide +kernel
theorem dM_again_47 : decode c_M_again 47 = .ok (.getfield 13, 3) := by decide +kernel
theorem dM_again_50 : decode c_M_again 50 = .ok (.iload_n 1, 1) := by decide +kernel
theorem dM_again_51 : decode c_M_again 51 = .ok (.baload, 1) := by decide +kernel
theorem dM_again_52 : decode c_M_again 52 = .ok (.bastore, 1) := by decide +kernel
theorem dM_again_53 : decode c_M_again 53 = .ok (.iinc 1 1, 3) := by decide +kernel
theorem dM_again_56 : decode c_M_again 56 = .ok (.goto (-28), 3) := by decide +kernel
theorem dM_again_59 : decode c_M_again 59 = .ok (.aload_n 0, 1) := by decide +kernel
theorem dM_again_60 : decode c_M_again 60 = .ok (.dup, 1) := by decide +kernel
theorem dM_again_61 : decode c_M_again 61 = .ok (.getfield 70, 3) := by decide +kernel
theorem dM_again_64 : decode c_M_again 64 = .ok (.aload_n 0, 1) := by decide +kernel
theorem dM_again_65 : decode c_M_again 65 = .ok (.getfield 80, 3) := by decide +kernel
theorem dM_again_68 : decode c_M_again 68 = .ok (.iadd, 1) := by decide +kernel
theorem dM_again_69 : decode c_M_again 69 = .ok (.putfield 70, 3) := by decide +kernel
theorem dM_again_72 : decode c_M_again 72 = .ok (.aload_n 0, 1) := by decide +kernel
theorem dM_again_73 : decode c_M_again 73 = .ok (.getfield 70, 3) := by decide +kernel
theorem dM_again_76 : decode c_M_again 76 = .ok (.ireturn, 1) := by decide +kernel
abbrev c_M_alter : ByteArray := prog_12_method_12_code
abbrev y_M_alter : MethodName := ⟨"LatticeKeysModel", "alter", "(II)I"⟩
abbrev w_M_alter : List Cond := Cond.code y_M_alter c_M_alter 3 (some .int) :: WG
theorem dM_alter_0 : decode c_M_alter 0 = .ok (.aload_n 0, 1) := by decide +kernel
theorem dM_alter_1 : decode c_M_alter 1 = .ok (.iconst 0, 1) := by decide +kernel
theorem dM_alter_2 : decode c_M_alter 2 = .ok (.putfield 57, 3) := by decide +kernel
theorem dM_alter_5 : decode c_M_alter 5 = .ok (.iload_n 1, 1) := by decide +kernel
theorem dM_alter_6 : decode c_M_alter 6 = .ok (.ifCond .lt 11, 3) := by decide +kernel
theorem dM_alter_9 : decode c_M_alter 9 = .ok (.iload_n 1, 1) := by decide +kernel
theorem dM_alter_10 : decode c_M_alter 10 = .ok (.aload_n 0, 1) := by decide +kernel
theorem dM_alter_11 : decode c_M_alter 11 = .ok (.getfield 70, 3) := by decide +kernel
theorem dM_alter_14 : decode c_M_alter 14 = .ok (.if_icmp .lt 9, 3) := by decide +kernel
theorem dM_alter_17 : decode c_M_alter 17 = .ok (.aload_n 0, 1) := by decide +kernel
theorem dM_alter_18 : decode c_M_alter 18 = .ok (.iconst 1, 1) := by decide +kernel
theorem dM_alter_19 : decode c_M_alter 19 = .ok (.invokevirtual 73, 3) := by decide +kernel
theorem dM_alter_22 : decode c_M_alter 22 = .ok (.ireturn, 1) := by decide +kernel
theorem dM_alter_23 : decode c_M_alter 23 = .ok (.aload_n 0, 1) := by decide +kernel
theorem dM_alter_24 : decode c_M_alter 24 = .ok (.getfield 7, 3) := by decide +kernel
theorem dM_alter_27 : decode c_M_alter 27 = .ok (.iload_n 1, 1) := by decide +kernel
theorem dM_alter_28 : decode c_M_alter 28 = .ok (.dup2, 1) := by decide +kernel
theorem dM_alter_29 : decode c_M_alter 29 = .ok (.baload, 1) := by decide +kernel
theorem dM_alter_30 : decode c_M_alter 30 = .ok (.iload_n 2, 1) := by decide +kernel
theorem dM_alter_31 : decode c_M_alter 31 = .ok (.i2b, 1) := by decide +kernel
theorem dM_alter_32 : decode c_M_alter 32 = .ok (.ixor, 1) := by decide +kernel
theorem dM_alter_33 : decode c_M_alter 33 = .ok (.i2b, 1) := by decide +kernel
theorem dM_alter_34 : decode c_M_alter 34 = .ok (.bastore, 1) := by decide +kernel
theorem dM_alter_35 : decode c_M_alter 35 = .ok (.aload_n 0, 1) := by decide +kernel
theorem dM_alter_36 : decode c_M_alter 36 = .ok (.getfield 7, 3) := by decide +kernel
theorem dM_alter_39 : decode c_M_alter 39 = .ok (.iload_n 1, 1) := by decide +kernel
theorem dM_alter_40 : decode c_M_alter 40 = .ok (.baload, 1) := by decide +kernel
theorem dM_alter_41 : decode c_M_alter 41 = .ok (.sipush 255, 3) := by decide +kernel
theorem dM_alter_44 : decode c_M_alter 44 = .ok (.iand, 1) := by decide +kernel
theorem dM_alter_45 : decode c_M_alter 45 = .ok (.ireturn, 1) := by decide +kernel
abbrev c_M_result : ByteArray := prog_12_method_26_code
abbrev y_M_result : MethodName := ⟨"LatticeKeysModel", "result", "(I)I"⟩
abbrev w_M_result : List Cond := Cond.code y_M_result c_M_result 2 (some .int) :: WG
theorem dM_result_0 : decode c_M_result 0 = .ok (.aload_n 0, 1) := by decide +kernel
theorem dM_result_1 : decode c_M_result 1 = .ok (.iconst 0, 1) := by decide +kernel
theorem dM_result_2 : decode c_M_result 2 = .ok (.putfield 57, 3) := by decide +kernel
theorem dM_result_5 : decode c_M_result 5 = .ok (.iload_n 1, 1) := by decide +kernel
theorem dM_result_6 : decode c_M_result 6 = .ok (.ifCond .lt 11, 3) := by decide +kernel
theorem dM_result_9 : decode c_M_result 9 = .ok (.iload_n 1, 1) := by decide +kernel
theorem dM_result_10 : decode c_M_result 10 = .ok (.aload_n 0, 1) := by decide +kernel
theorem dM_result_11 : decode c_M_result 11 = .ok (.getfield 80, 3) := by decide +kernel
theorem dM_result_14 : decode c_M_result 14 = .ok (.if_icmp .lt 11, 3) := by decide +kernel
theorem dM_result_17 : decode c_M_result 17 = .ok (.aload_n 0, 1) := by decide +kernel
theorem dM_result_18 : decode c_M_result 18 = .ok (.iconst 1, 1) := by decide +kernel
theorem dM_result_19 : decode c_M_result 19 = .ok (.invokevirtual 73, 3) := by decide +kernel
theorem dM_result_22 : decode c_M_result 22 = .ok (.goto 13, 3) := by decide +kernel
theorem dM_result_25 : decode c_M_result 25 = .ok (.aload_n 0, 1) := by decide +kernel
theorem dM_result_26 : decode c_M_result 26 = .ok (.getfield 13, 3) := by decide +kernel
theorem dM_result_29 : decode c_M_result 29 = .ok (.iload_n 1, 1) := by decide +kernel
theorem dM_result_30 : decode c_M_result 30 = .ok (.baload, 1) := by decide +kernel
theorem dM_result_31 : decode c_M_result 31 = .ok (.sipush 255, 3) := by decide +kernel
theorem dM_result_34 : decode c_M_result 34 = .ok (.iand, 1) := by decide +kernel
theorem dM_result_35 : decode c_M_result 35 = .ok (.ireturn, 1) := by decide +kernel
abbrev c_M_count : ByteArray := prog_12_method_27_code
abbrev y_M_count : MethodName := ⟨"LatticeKeysModel", "count", "(I)I"⟩
abbrev w_M_count : List Cond := Cond.code y_M_count c_M_count 2 (some .int) :: WG
theorem dM_count_0 : decode c_M_count 0 = .ok (.aload_n 0, 1) := by decide +kernel
theorem dM_count_1 : decode c_M_count 1 = .ok (.iconst 0, 1) := by decide +kernel
theorem dM_count_2 : decode c_M_count 2 = .ok (.putfield 57, 3) := by decide +kernel
theorem dM_count_5 : decode c_M_count 5 = .ok (.iload_n 1, 1) := by decide +kernel
theorem dM_count_6 : decode c_M_count 6 = .ok (.ifCond .ne 10, 3) := by decide +kernel
theorem dM_count_9 : decode c_M_count 9 = .ok (.aload_n 0, 1) := by decide +kernel
theorem dM_count_10 : decode c_M_count 10 = .ok (.getfield 70, 3) := by decide +kernel
theorem dM_count_13 : decode c_M_count 13 = .ok (.goto 28, 3) := by decide +kernel
theorem dM_count_16 : decode c_M_count 16 = .ok (.iload_n 1, 1) := by decide +kernel
theorem dM_count_17 : decode c_M_count 17 = .ok (.iconst 1, 1) := by decide +kernel
theorem dM_count_18 : decode c_M_count 18 = .ok (.if_icmp .ne 10, 3) := by decide +kernel
theorem dM_count_21 : decode c_M_count 21 = .ok (.aload_n 0, 1) := by decide +kernel
theorem dM_count_22 : decode c_M_count 22 = .ok (.getfield 83, 3) := by decide +kernel
theorem dM_count_25 : decode c_M_count 25 = .ok (.goto 16, 3) := by decide +kernel
theorem dM_count_28 : decode c_M_count 28 = .ok (.iload_n 1, 1) := by decide +kernel
theorem dM_count_29 : decode c_M_count 29 = .ok (.iconst 2, 1) := by decide +kernel
theorem dM_count_30 : decode c_M_count 30 = .ok (.if_icmp .ne 10, 3) := by decide +kernel
theorem dM_count_33 : decode c_M_count 33 = .ok (.aload_n 0, 1) := by decide +kernel
theorem dM_count_34 : decode c_M_count 34 = .ok (.getfield 80, 3) := by decide +kernel
theorem dM_count_37 : decode c_M_count 37 = .ok (.goto 4, 3) := by decide +kernel
theorem dM_count_40 : decode c_M_count 40 = .ok (.iconst (-1), 1) := by decide +kernel
theorem dM_count_41 : decode c_M_count 41 = .ok (.ireturn, 1) := by decide +kernel
set_option maxHeartbeats 4000000 in
set_option maxRecDepth 100000 in
theorem t_M_fail (l : Launch) (g : Gd) (sz : Nat) (T : Ty) (pl : va_W) (hO : okx g T [] pl) (hU : uni T) (cd : Int32) (h0 mt mr_ mk mo mh mse mhs msp msc mha tp rs ks : Nat) (x0 : Int32) (fS : Nat → Int32) (k_mt : T mt = some (1, 16384)) (k_mr_ : T mr_ = some (1, 8192)) (k_mk : T mk = some (1, 8192)) (k_mo : T mo = some (4, 2592)) (k_mh : T mh = some (4, 4896)) (k_mhs : T mhs = some (5, 4896)) (k_msp : T msp = some (20, 0)) (k_msc : T msc = some (23, 0)) (k_mha : T mha = some (49, 0)) (hb : tp ≤ 16384 ∧ rs ≤ 8192 ∧ ks ≤ 8) (hS5 : s5 fS)  : Met l y_M_fail w_M_fail ({ frames := 0, cells := 0, slots := 0, locals := 0 } : Room) (va_Pc [.ref h0, .int cd] (pr (en g) g.1 vcl sz ([(h0, .inr (8, [.int x0, .int (nI tp), .int (nI rs), .int (nI ks), .ref mt, .ref mr_, .ref mk, .ref mo, .ref mh, .ref mse, .ref mhs, .ref msp, .ref msc, .ref mha])), (mse, .inl (g.2.1 0, 8, .inl fS))] ++ pl))) (va_Qi (fun (r : Int32) (u : (Int32 × Nat × Nat × Nat × (Nat → Int32)) × va_W) => (u.1.2.1 ≤ 16384 ∧ u.1.2.2.1 ≤ 8192 ∧ u.1.2.2.2.1 ≤ 8 ∧ s5 u.1.2.2.2.2 ∧ u.1.1 = cd ∧ u.1.2.1 = tp ∧ u.1.2.2.1 = rs ∧ u.1.2.2.2.1 = ks ∧ r = nI 0) ∧ okx g T [] u.2) (po g.1 vcl (va_A ([(h0, .inr (8, [.int x0, .int (nI tp), .int (nI rs), .int (nI ks), .ref mt, .ref mr_, .ref mk, .ref mo, .ref mh, .ref mse, .ref mhs, .ref msp, .ref msc, .ref mha])), (mse, .inl (g.2.1 0, 8, .inl fS))] ++ pl) sz) (fun (u : (Int32 × Nat × Nat × Nat × (Nat → Int32)) × va_W) => [(h0, .inr (8, [.int u.1.1, .int (nI (u.1.2.1)), .int (nI (u.1.2.2.1)), .int (nI (u.1.2.2.2.1)), .ref mt, .ref mr_, .ref mk, .ref mo, .ref mh, .ref mse, .ref mhs, .ref msp, .ref msc, .ref mha])), (mse, .inl (g.2.1 0, 8, .inl ((u.1.2.2.2.2))))] ++ u.2)) (va_A ([(h0, .inr (8, [.int x0, .int (nI tp), .int (nI rs), .int (nI ks), .ref mt, .ref mr_, .ref mk, .ref mo, .ref mh, .ref mse, .ref mhs, .ref msp, .ref msc, .ref mha])), (mse, .inl (g.2.1 0, 8, .inl fS))] ++ pl) sz)) 0 0 (va_A ([(h0, .inr (8, [.int x0, .int (nI tp), .int (nI rs), .int (nI ks), .ref mt, .ref mr_, .ref mk, .ref mo, .ref mh, .ref mse, .ref mhs, .ref msp, .ref msc, .ref mha])), (mse, .inl (g.2.1 0, 8, .inl fS))] ++ pl) sz) := by
  refine mc_entry (cc := c_M_fail) (maxL := 2) (ret := (some .int)) (by decide) rfl (Nat.le_of_ble_eq_true rfl) ?_
  intro p e s m args below meth c ls F hr hlk hnm hsz hP hD hE hA hl
  obtain ⟨hx, hb, hml, hown, hts⟩ := id F
  have hK := hE.1
  generalize va_A ([(h0, .inr (8, [.int x0, .int (nI tp), .int (nI rs), .int (nI ks), .ref mt, .ref mr_, .ref mk, .ref mo, .ref mh, .ref mse, .ref mhs, .ref msp, .ref msc, .ref mha])), (mse, .inl (g.2.1 0, 8, .inl fS))] ++ pl) sz = A at hD hE hA ⊢
  have hS : va_S A s.heap s.heap [] := va_S.rf
  have hl : lv_has ls 2 [(0, .ref h0), (1, .int cd)] := hl
  refine lv_aload_n hx hb dM_fail_0 rfl (lv_at hl 0 rfl) ?_
  refine lv_iload_n hx hb dM_fail_1 rfl (lv_at hl 1 rfl) ?_
  refine va_put (D := g.1) (ci := 8) (v := .int cd) (ty := .int) (C := "LatticeKeysModel") (T := T_M) (N := 14) hx hb hts (wg_ft i_M) ty_M k_M n_M hown hK hP hD hS 0 rfl rfl 0 (by decide) (hts _ (wg_t kw_1526)) (fun _ h9 => h9) rfl (by decide +kernel) rfl rfl (Nat.le_of_ble_eq_true rfl) dM_fail_2 (fun H locs hP hD hS => ?_)
  have hP : va_P g.1 vcl ([(h0, .inr (8, [.int cd, .int (nI tp), .int (nI rs), .int (nI ks), .ref mt, .ref mr_, .ref mk, .ref mo, .ref mh, .ref mse, .ref mhs, .ref msp, .ref msc, .ref mha])), (mse, .inl (g.2.1 0, 8, .inl fS))] ++ pl) _ := hP
  have hD : va_D _ ([(h0, .inr (8, [.int cd, .int (nI tp), .int (nI rs), .int (nI ks), .ref mt, .ref mr_, .ref mk, .ref mo, .ref mh, .ref mse, .ref mhs, .ref msp, .ref msc, .ref mha])), (mse, .inl (g.2.1 0, 8, .inl fS))] ++ pl) := hD
  refine lv_iconst (v := nI 0) hx hb dM_fail_5 (by decide) ?_
  exact mp_iret hx hb hr hlk hP hD hS ((cd, tp, rs, ks, fS), pl) ⟨⟨(by show tp ≤ 16384; omega), (by show rs ≤ 8192; omega), (by show ks ≤ 8; omega), hS5, rfl, rfl, rfl, rfl, rfl⟩, hO⟩ [0, 1] rfl rfl rfl (by omega) (by omega) dM_fail_6
set_option maxHeartbeats 4000000 in
set_option maxRecDepth 100000 in
theorem t_M_four (l : Launch) (g : Gd) (sz : Nat) (T : Ty) (pl : va_W) (hO : okx g T [] pl) (hU : uni T) (v : Int32) (h0 mt mr_ mk mo mh mse mhs msp msc mha tp rs ks : Nat) (x0 : Int32) (fS : Nat → Int32) (k_mt : T mt = some (1, 16384)) (k_mr_ : T mr_ = some (1, 8192)) (k_mk : T mk = some (1, 8192)) (k_mo : T mo = some (4, 2592)) (k_mh : T mh = some (4, 4896)) (k_mhs : T mhs = some (5, 4896)) (k_msp : T msp = some (20, 0)) (k_msc : T msc = some (23, 0)) (k_mha : T mha = some (49, 0)) (hb : tp ≤ 16384 ∧ rs ≤ 8192 ∧ ks ≤ 8) (hS5 : s5 fS) (h4 : tp + 4 ≤ 16384)  : Met l y_M_four w_M_four ({ frames := 0, cells := 0, slots := 0, locals := 0 } : Room) (va_Pc [.ref h0, .int v] (pr (en g) g.1 vcl sz ([(h0, .inr (8, [.int x0, .int (nI tp), .int (nI rs), .int (nI ks), .ref mt, .ref mr_, .ref mk, .ref mo, .ref mh, .ref mse, .ref mhs, .ref msp, .ref msc, .ref mha])), (mse, .inl (g.2.1 0, 8, .inl fS))] ++ pl))) (va_Qv (fun (u : (Int32 × Nat × Nat × Nat × (Nat → Int32)) × va_W) => (u.1.2.1 ≤ 16384 ∧ u.1.2.2.1 ≤ 8192 ∧ u.1.2.2.2.1 ≤ 8 ∧ s5 u.1.2.2.2.2 ∧ u.1.2.1 = tp + 4 ∧ u.1.1 = x0) ∧ okx g T [] u.2) (po g.1 vcl (va_A ([(h0, .inr (8, [.int x0, .int (nI tp), .int (nI rs), .int (nI ks), .ref mt, .ref mr_, .ref mk, .ref mo, .ref mh, .ref mse, .ref mhs, .ref msp, .ref msc, .ref mha])), (mse, .inl (g.2.1 0, 8, .inl fS))] ++ pl) sz) (fun (u : (Int32 × Nat × Nat × Nat × (Nat → Int32)) × va_W) => [(h0, .inr (8, [.int u.1.1, .int (nI (u.1.2.1)), .int (nI (u.1.2.2.1)), .int (nI (u.1.2.2.2.1)), .ref mt, .ref mr_, .ref mk, .ref mo, .ref mh, .ref mse, .ref mhs, .ref msp, .ref msc, .ref mha])), (mse, .inl (g.2.1 0, 8, .inl ((u.1.2.2.2.2))))] ++ u.2)) (va_A ([(h0, .inr (8, [.int x0, .int (nI tp), .int (nI rs), .int (nI ks), .ref mt, .ref mr_, .ref mk, .ref mo, .ref mh, .ref mse, .ref mhs, .ref msp, .ref msc, .ref mha])), (mse, .inl (g.2.1 0, 8, .inl fS))] ++ pl) sz)) 0 0 (va_A ([(h0, .inr (8, [.int x0, .int (nI tp), .int (nI rs), .int (nI ks), .ref mt, .ref mr_, .ref mk, .ref mo, .ref mh, .ref mse, .ref mhs, .ref msp, .ref msc, .ref mha])), (mse, .inl (g.2.1 0, 8, .inl fS))] ++ pl) sz) := by
  refine mc_entry (cc := c_M_four) (maxL := 3) (ret := none) (by decide) rfl (Nat.le_of_ble_eq_true rfl) ?_
  intro p e s m args below meth c ls F hr hlk hnm hsz hP hD hE hA hl
  obtain ⟨hx, hb, hml, hown, hts⟩ := id F
  have hK := hE.1
  generalize va_A ([(h0, .inr (8, [.int x0, .int (nI tp), .int (nI rs), .int (nI ks), .ref mt, .ref mr_, .ref mk, .ref mo, .ref mh, .ref mse, .ref mhs, .ref msp, .ref msc, .ref mha])), (mse, .inl (g.2.1 0, 8, .inl fS))] ++ pl) sz = A at hD hE hA ⊢
  have hS : va_S A s.heap s.heap [] := va_S.rf
  have hl : lv_has ls 3 [(0, .ref h0), (1, .int v)] := hl
  refine lv_bipush (v := nI 24) hx hb dM_four_0 (by decide) ?_
  refine lv_istore_n (lv' := [(2, .int (nI 24)), (0, .ref h0), (1, .int v)]) hx hb dM_four_2 rfl hl (by decide) rfl (fun ls hl => ?_)
  refine lv_iload_n hx hb dM_four_3 rfl (lv_at hl 0 rfl) ?_
  refine lv_if_lt (tgt := 36) hx hb dM_four_4 (by decide) (fun h21 => absurd h21 (by decide)) (fun h21 => ?_)
  refine lv_aload_n hx hb dM_four_7 rfl (lv_at hl 1 rfl) ?_
  refine va_get (D := g.1) (ci := 8) (C := "LatticeKeysModel") (T := T_M) (N := 14) hx hb hts (wg_ft i_M) hown hK hP 0 rfl rfl 4 (by decide) (hts _ (wg_t kw_1530)) (fun _ h9 => h9) rfl dM_four_8 ?_
  refine lv_aload_n hx hb dM_four_11 rfl (lv_at hl 1 rfl) ?_
  refine va_get (D := g.1) (ci := 8) (C := "LatticeKeysModel") (T := T_M) (N := 14) hx hb hts (wg_ft i_M) hown hK hP 0 rfl rfl 1 (by decide) (hts _ (wg_t kw_1527)) (fun _ h9 => h9) rfl dM_four_12 ?_
  refine lv_iload_n hx hb dM_four_15 rfl (lv_at hl 2 rfl) ?_
  refine lv_iload_n hx hb dM_four_16 rfl (lv_at hl 0 rfl) ?_
  refine lv_ishr hx hb dM_four_17 ?_
  refine mi_any (fun z21 => ?_)
  refine lv_i2b hx hb dM_four_18 rfl ?_
  refine mi_any (fun z22 => ?_)
  refine ty_bast hx hb hK hO k_mt (nxg clo_nil k_mt rfl) hP hD hS (vp_in_nI (by omega) (by decide)) dM_four_19 (fun pl H locs hO hP hD hS => ?_)
  refine lv_aload_n hx hb dM_four_20 rfl (lv_at hl 1 rfl) ?_
  refine lv_dup hx hb dM_four_21 rfl ?_
  refine va_get (D := g.1) (ci := 8) (C := "LatticeKeysModel") (T := T_M) (N := 14) hx hb hts (wg_ft i_M) hown hK hP 0 rfl rfl 1 (by decide) (hts _ (wg_t kw_1527)) (fun _ h9 => h9) rfl dM_four_22 ?_
  refine lv_iconst (v := nI 1) hx hb dM_four_25 (by decide) ?_
  refine mi_iadd hx hb dM_four_26 ?_
  refine va_put (D := g.1) (ci := 8) (v := .int (nI (tp + 1))) (ty := .int) (C := "LatticeKeysModel") (T := T_M) (N := 14) hx hb hts (wg_ft i_M) ty_M k_M n_M hown hK hP hD hS 0 rfl rfl 1 (by decide) (hts _ (wg_t kw_1527)) (fun _ h9 => h9) rfl (by decide +kernel) rfl rfl (Nat.le_of_ble_eq_true rfl) dM_four_27 (fun H locs hP hD hS => ?_)
  have hP : va_P g.1 vcl ([(h0, .inr (8, [.int x0, .int (nI (tp + 1)), .int (nI rs), .int (nI ks), .ref mt, .ref mr_, .ref mk, .ref mo, .ref mh, .ref mse, .ref mhs, .ref msp, .ref msc, .ref mha])), (mse, .inl (g.2.1 0, 8, .inl fS))] ++ pl) _ := hP
  have hD : va_D _ ([(h0, .inr (8, [.int x0, .int (nI (tp + 1)), .int (nI rs), .int (nI ks), .ref mt, .ref mr_, .ref mk, .ref mo, .ref mh, .ref mse, .ref mhs, .ref msp, .ref msc, .ref mha])), (mse, .inl (g.2.1 0, 8, .inl fS))] ++ pl) := hD
  refine lv_iinc (k := 0) (v := nI 16) (lv' := [(2, .int (nI 16)), (0, .ref h0), (1, .int v)]) hx hb dM_four_30 hl rfl (by decide) (by decide) rfl (fun ls hl => ?_)
  refine lv_goto (tgt := 3) hx hb dM_four_33 (by decide) ?_
  refine lv_iload_n hx hb dM_four_3 rfl (lv_at hl 0 rfl) ?_
  refine lv_if_lt (tgt := 36) hx hb dM_four_4 (by decide) (fun h22 => absurd h22 (by decide)) (fun h22 => ?_)
  refine lv_aload_n hx hb dM_four_7 rfl (lv_at hl 1 rfl) ?_
  refine va_get (D := g.1) (ci := 8) (C := "LatticeKeysModel") (T := T_M) (N := 14) hx hb hts (wg_ft i_M) hown hK hP 0 rfl rfl 4 (by decide) (hts _ (wg_t kw_1530)) (fun _ h9 => h9) rfl dM_four_8 ?_
  refine lv_aload_n hx hb dM_four_11 rfl (lv_at hl 1 rfl) ?_
  refine va_get (D := g.1) (ci := 8) (C := "LatticeKeysModel") (T := T_M) (N := 14) hx hb hts (wg_ft i_M) hown hK hP 0 rfl rfl 1 (by decide) (hts _ (wg_t kw_1527)) (fun _ h9 => h9) rfl dM_four_12 ?_
  refine lv_iload_n hx hb dM_four_15 rfl (lv_at hl 2 rfl) ?_
  refine lv_iload_n hx hb dM_four_16 rfl (lv_at hl 0 rfl) ?_
  refine lv_ishr hx hb dM_four_17 ?_
  refine mi_any (fun z23 => ?_)
  refine lv_i2b hx hb dM_four_18 rfl ?_
  refine mi_any (fun z24 => ?_)
  refine ty_bast hx hb hK hO k_mt (nxg clo_nil k_mt rfl) hP hD hS (vp_in_nI (by omega) (by decide)) dM_four_19 (fun pl H locs hO hP hD hS => ?_)
  refine lv_aload_n hx hb dM_four_20 rfl (lv_at hl 1 rfl) ?_
  refine lv_dup hx hb dM_four_21 rfl ?_
  refine va_get (D := g.1) (ci := 8) (C := "LatticeKeysModel") (T := T_M) (N := 14) hx hb hts (wg_ft i_M) hown hK hP 0 rfl rfl 1 (by decide) (hts _ (wg_t kw_1527)) (fun _ h9 => h9) rfl dM_four_22 ?_
  refine lv_iconst (v := nI 1) hx hb dM_four_25 (by decide) ?_
  refine mi_iadd hx hb dM_four_26 ?_
  refine va_put (D := g.1) (ci := 8) (v := .int (nI ((tp + 1) + 1))) (ty := .int) (C := "LatticeKeysModel") (T := T_M) (N := 14) hx hb hts (wg_ft i_M) ty_M k_M n_M hown hK hP hD hS 0 rfl rfl 1 (by decide) (hts _ (wg_t kw_1527)) (fun _ h9 => h9) rfl (by decide +kernel) rfl rfl (Nat.le_of_ble_eq_true rfl) dM_four_27 (fun H locs hP hD hS => ?_)
  have hP : va_P g.1 vcl ([(h0, .inr (8, [.int x0, .int (nI ((tp + 1) + 1)), .int (nI rs), .int (nI ks), .ref mt, .ref mr_, .ref mk, .ref mo, .ref mh, .ref mse, .ref mhs, .ref msp, .ref msc, .ref mha])), (mse, .inl (g.2.1 0, 8, .inl fS))] ++ pl) _ := hP
  have hD : va_D _ ([(h0, .inr (8, [.int x0, .int (nI ((tp + 1) + 1)), .int (nI rs), .int (nI ks), .ref mt, .ref mr_, .ref mk, .ref mo, .ref mh, .ref mse, .ref mhs, .ref msp, .ref msc, .ref mha])), (mse, .inl (g.2.1 0, 8, .inl fS))] ++ pl) := hD
  refine lv_iinc (k := 0) (v := nI 8) (lv' := [(2, .int (nI 8)), (0, .ref h0), (1, .int v)]) hx hb dM_four_30 hl rfl (by decide) (by decide) rfl (fun ls hl => ?_)
  refine lv_goto (tgt := 3) hx hb dM_four_33 (by decide) ?_
  refine lv_iload_n hx hb dM_four_3 rfl (lv_at hl 0 rfl) ?_
  refine lv_if_lt (tgt := 36) hx hb dM_four_4 (by decide) (fun h23 => absurd h23 (by decide)) (fun h23 => ?_)
  refine lv_aload_n hx hb dM_four_7 rfl (lv_at hl 1 rfl) ?_
  refine va_get (D := g.1) (ci := 8) (C := "LatticeKeysModel") (T := T_M) (N := 14) hx hb hts (wg_ft i_M) hown hK hP 0 rfl rfl 4 (by decide) (hts _ (wg_t kw_1530)) (fun _ h9 => h9) rfl dM_four_8 ?_
  refine lv_aload_n hx hb dM_four_11 rfl (lv_at hl 1 rfl) ?_
  refine va_get (D := g.1) (ci := 8) (C := "LatticeKeysModel") (T := T_M) (N := 14) hx hb hts (wg_ft i_M) hown hK hP 0 rfl rfl 1 (by decide) (hts _ (wg_t kw_1527)) (fun _ h9 => h9) rfl dM_four_12 ?_
  refine lv_iload_n hx hb dM_four_15 rfl (lv_at hl 2 rfl) ?_
  refine lv_iload_n hx hb dM_four_16 rfl (lv_at hl 0 rfl) ?_
  refine lv_ishr hx hb dM_four_17 ?_
  refine mi_any (fun z25 => ?_)
  refine lv_i2b hx hb dM_four_18 rfl ?_
  refine mi_any (fun z26 => ?_)
  refine ty_bast hx hb hK hO k_mt (nxg clo_nil k_mt rfl) hP hD hS (vp_in_nI (by omega) (by decide)) dM_four_19 (fun pl H locs hO hP hD hS => ?_)
  refine lv_aload_n hx hb dM_four_20 rfl (lv_at hl 1 rfl) ?_
  refine lv_dup hx hb dM_four_21 rfl ?_
  refine va_get (D := g.1) (ci := 8) (C := "LatticeKeysModel") (T := T_M) (N := 14) hx hb hts (wg_ft i_M) hown hK hP 0 rfl rfl 1 (by decide) (hts _ (wg_t kw_1527)) (fun _ h9 => h9) rfl dM_four_22 ?_
  refine lv_iconst (v := nI 1) hx hb dM_four_25 (by decide) ?_
  refine mi_iadd hx hb dM_four_26 ?_
  refine va_put (D := g.1) (ci := 8) (v := .int (nI (((tp + 1) + 1) + 1))) (ty := .int) (C := "LatticeKeysModel") (T := T_M) (N := 14) hx hb hts (wg_ft i_M) ty_M k_M n_M hown hK hP hD hS 0 rfl rfl 1 (by decide) (hts _ (wg_t kw_1527)) (fun _ h9 => h9) rfl (by decide +kernel) rfl rfl (Nat.le_of_ble_eq_true rfl) dM_four_27 (fun H locs hP hD hS => ?_)
  have hP : va_P g.1 vcl ([(h0, .inr (8, [.int x0, .int (nI (((tp + 1) + 1) + 1)), .int (nI rs), .int (nI ks), .ref mt, .ref mr_, .ref mk, .ref mo, .ref mh, .ref mse, .ref mhs, .ref msp, .ref msc, .ref mha])), (mse, .inl (g.2.1 0, 8, .inl fS))] ++ pl) _ := hP
  have hD : va_D _ ([(h0, .inr (8, [.int x0, .int (nI (((tp + 1) + 1) + 1)), .int (nI rs), .int (nI ks), .ref mt, .ref mr_, .ref mk, .ref mo, .ref mh, .ref mse, .ref mhs, .ref msp, .ref msc, .ref mha])), (mse, .inl (g.2.1 0, 8, .inl fS))] ++ pl) := hD
  refine lv_iinc (k := 0) (v := nI 0) (lv' := [(2, .int (nI 0)), (0, .ref h0), (1, .int v)]) hx hb dM_four_30 hl rfl (by decide) (by decide) rfl (fun ls hl => ?_)
  refine lv_goto (tgt := 3) hx hb dM_four_33 (by decide) ?_
  refine lv_iload_n hx hb dM_four_3 rfl (lv_at hl 0 rfl) ?_
  refine lv_if_lt (tgt := 36) hx hb dM_four_4 (by decide) (fun h24 => absurd h24 (by decide)) (fun h24 => ?_)
  refine lv_aload_n hx hb dM_four_7 rfl (lv_at hl 1 rfl) ?_
  refine va_get (D := g.1) (ci := 8) (C := "LatticeKeysModel") (T := T_M) (N := 14) hx hb hts (wg_ft i_M) hown hK hP 0 rfl rfl 4 (by decide) (hts _ (wg_t kw_1530)) (fun _ h9 => h9) rfl dM_four_8 ?_
  refine lv_aload_n hx hb dM_four_11 rfl (lv_at hl 1 rfl) ?_
  refine va_get (D := g.1) (ci := 8) (C := "LatticeKeysModel") (T := T_M) (N := 14) hx hb hts (wg_ft i_M) hown hK hP 0 rfl rfl 1 (by decide) (hts _ (wg_t kw_1527)) (fun _ h9 => h9) rfl dM_four_12 ?_
  refine lv_iload_n hx hb dM_four_15 rfl (lv_at hl 2 rfl) ?_
  refine lv_iload_n hx hb dM_four_16 rfl (lv_at hl 0 rfl) ?_
  refine lv_ishr hx hb dM_four_17 ?_
  refine mi_any (fun z27 => ?_)
  refine lv_i2b hx hb dM_four_18 rfl ?_
  refine mi_any (fun z28 => ?_)
  refine ty_bast hx hb hK hO k_mt (nxg clo_nil k_mt rfl) hP hD hS (vp_in_nI (by omega) (by decide)) dM_four_19 (fun pl H locs hO hP hD hS => ?_)
  refine lv_aload_n hx hb dM_four_20 rfl (lv_at hl 1 rfl) ?_
  refine lv_dup hx hb dM_four_21 rfl ?_
  refine va_get (D := g.1) (ci := 8) (C := "LatticeKeysModel") (T := T_M) (N := 14) hx hb hts (wg_ft i_M) hown hK hP 0 rfl rfl 1 (by decide) (hts _ (wg_t kw_1527)) (fun _ h9 => h9) rfl dM_four_22 ?_
  refine lv_iconst (v := nI 1) hx hb dM_four_25 (by decide) ?_
  refine mi_iadd hx hb dM_four_26 ?_
  refine va_put (D := g.1) (ci := 8) (v := .int (nI ((((tp + 1) + 1) + 1) + 1))) (ty := .int) (C := "LatticeKeysModel") (T := T_M) (N := 14) hx hb hts (wg_ft i_M) ty_M k_M n_M hown hK hP hD hS 0 rfl rfl 1 (by decide) (hts _ (wg_t kw_1527)) (fun _ h9 => h9) rfl (by decide +kernel) rfl rfl (Nat.le_of_ble_eq_true rfl) dM_four_27 (fun H locs hP hD hS => ?_)
  have hP : va_P g.1 vcl ([(h0, .inr (8, [.int x0, .int (nI ((((tp + 1) + 1) + 1) + 1)), .int (nI rs), .int (nI ks), .ref mt, .ref mr_, .ref mk, .ref mo, .ref mh, .ref mse, .ref mhs, .ref msp, .ref msc, .ref mha])), (mse, .inl (g.2.1 0, 8, .inl fS))] ++ pl) _ := hP
  have hD : va_D _ ([(h0, .inr (8, [.int x0, .int (nI ((((tp + 1) + 1) + 1) + 1)), .int (nI rs), .int (nI ks), .ref mt, .ref mr_, .ref mk, .ref mo, .ref mh, .ref mse, .ref mhs, .ref msp, .ref msc, .ref mha])), (mse, .inl (g.2.1 0, 8, .inl fS))] ++ pl) := hD
  refine lv_iinc (k := 0) (v := (-8)) (lv' := [(2, .int (-8)), (0, .ref h0), (1, .int v)]) hx hb dM_four_30 hl rfl (by decide) (by decide) rfl (fun ls hl => ?_)
  refine lv_goto (tgt := 3) hx hb dM_four_33 (by decide) ?_
  refine lv_iload_n hx hb dM_four_3 rfl (lv_at hl 0 rfl) ?_
  refine lv_if_lt (tgt := 36) hx hb dM_four_4 (by decide) (fun h25 => ?_) (fun h25 => absurd h25 (by decide))
  exact mp_vret hx hb hr hlk hP hD hS ((x0, (((tp + 1) + 1) + 1) + 1, rs, ks, fS), pl) ⟨⟨(by show (((tp + 1) + 1) + 1) + 1 ≤ 16384; omega), (by show rs ≤ 8192; omega), (by show ks ≤ 8; omega), hS5, (by show (((tp + 1) + 1) + 1) + 1 = tp + 4; omega), rfl⟩, hO⟩ [0, 1] rfl rfl rfl (by omega) (by omega) dM_four_36
set_option maxHeartbeats 4000000 in
set_option maxRecDepth 100000 in
theorem t_M_feed (l : Launch) (g : Gd) (sz : Nat) (T : Ty) (pl : va_W) (hO : okx g T [] pl) (hU : uni T) (v1 : Int32) (v2 : Int32) (v3 : Int32) (v4 : Int32) (v5 : Int32) (h0 mt mr_ mk mo mh mse mhs msp msc mha tp rs ks : Nat) (x0 : Int32) (fS : Nat → Int32) (k_mt : T mt = some (1, 16384)) (k_mr_ : T mr_ = some (1, 8192)) (k_mk : T mk = some (1, 8192)) (k_mo : T mo = some (4, 2592)) (k_mh : T mh = some (4, 4896)) (k_mhs : T mhs = some (5, 4896)) (k_msp : T msp = some (20, 0)) (k_msc : T msc = some (23, 0)) (k_mha : T mha = some (49, 0)) (hb : tp ≤ 16384 ∧ rs ≤ 8192 ∧ ks ≤ 8) (hS5 : s5 fS)  : Met l y_M_feed w_M_feed ({ frames := 1, cells := 0, slots := 0, locals := 22 } : Room) (va_Pc [.ref h0, .int v1, .int v2, .int v3, .int v4, .int v5] (pr (en g) g.1 vcl sz ([(h0, .inr (8, [.int x0, .int (nI tp), .int (nI rs), .int (nI ks), .ref mt, .ref mr_, .ref mk, .ref mo, .ref mh, .ref mse, .ref mhs, .ref msp, .ref msc, .ref mha])), (mse, .inl (g.2.1 0, 8, .inl fS))] ++ pl))) (va_Qi (fun (r : Int32) (u : (Int32 × Nat × Nat × Nat × (Nat → Int32)) × va_W) => (u.1.2.1 ≤ 16384 ∧ u.1.2.2.1 ≤ 8192 ∧ u.1.2.2.2.1 ≤ 8 ∧ s5 u.1.2.2.2.2) ∧ okx g T [] u.2) (po g.1 vcl (va_A ([(h0, .inr (8, [.int x0, .int (nI tp), .int (nI rs), .int (nI ks), .ref mt, .ref mr_, .ref mk, .ref mo, .ref mh, .ref mse, .ref mhs, .ref msp, .ref msc, .ref mha])), (mse, .inl (g.2.1 0, 8, .inl fS))] ++ pl) sz) (fun (u : (Int32 × Nat × Nat × Nat × (Nat → Int32)) × va_W) => [(h0, .inr (8, [.int u.1.1, .int (nI (u.1.2.1)), .int (nI (u.1.2.2.1)), .int (nI (u.1.2.2.2.1)), .ref mt, .ref mr_, .ref mk, .ref mo, .ref mh, .ref mse, .ref mhs, .ref msp, .ref msc, .ref mha])), (mse, .inl (g.2.1 0, 8, .inl ((u.1.2.2.2.2))))] ++ u.2)) (va_A ([(h0, .inr (8, [.int x0, .int (nI tp), .int (nI rs), .int (nI ks), .ref mt, .ref mr_, .ref mk, .ref mo, .ref mh, .ref mse, .ref mhs, .ref msp, .ref msc, .ref mha])), (mse, .inl (g.2.1 0, 8, .inl fS))] ++ pl) sz)) 0 0 (va_A ([(h0, .inr (8, [.int x0, .int (nI tp), .int (nI rs), .int (nI ks), .ref mt, .ref mr_, .ref mk, .ref mo, .ref mh, .ref mse, .ref mhs, .ref msp, .ref msc, .ref mha])), (mse, .inl (g.2.1 0, 8, .inl fS))] ++ pl) sz) := by
  refine mc_entry (cc := c_M_feed) (maxL := 6) (ret := (some .int)) (by decide) rfl (Nat.le_of_ble_eq_true rfl) ?_
  intro p e s m args below meth c ls F hr hlk hnm hsz hP hD hE hA hl
  obtain ⟨hx, hb, hml, hown, hts⟩ := id F
  have hK := hE.1
  generalize va_A ([(h0, .inr (8, [.int x0, .int (nI tp), .int (nI rs), .int (nI ks), .ref mt, .ref mr_, .ref mk, .ref mo, .ref mh, .ref mse, .ref mhs, .ref msp, .ref msc, .ref mha])), (mse, .inl (g.2.1 0, 8, .inl fS))] ++ pl) sz = A at hD hE hA ⊢
  have hS : va_S A s.heap s.heap [] := va_S.rf
  have hl : lv_has ls 6 [(0, .ref h0), (1, .int v1), (2, .int v2), (3, .int v3), (4, .int v4), (5, .int v5)] := hl
  refine lv_aload_n hx hb dM_feed_0 rfl (lv_at hl 0 rfl) ?_
  refine lv_iconst (v := nI 0) hx hb dM_feed_1 (by decide) ?_
  refine va_put (D := g.1) (ci := 8) (v := .int (nI 0)) (ty := .int) (C := "LatticeKeysModel") (T := T_M) (N := 14) hx hb hts (wg_ft i_M) ty_M k_M n_M hown hK hP hD hS 0 rfl rfl 0 (by decide) (hts _ (wg_t kw_1526)) (fun _ h9 => h9) rfl (by decide +kernel) rfl rfl (Nat.le_of_ble_eq_true rfl) dM_feed_2 (fun H locs hP hD hS => ?_)
  have hP : va_P g.1 vcl ([(h0, .inr (8, [.int (nI 0), .int (nI tp), .int (nI rs), .int (nI ks), .ref mt, .ref mr_, .ref mk, .ref mo, .ref mh, .ref mse, .ref mhs, .ref msp, .ref msc, .ref mha])), (mse, .inl (g.2.1 0, 8, .inl fS))] ++ pl) _ := hP
  have hD : va_D _ ([(h0, .inr (8, [.int (nI 0), .int (nI tp), .int (nI rs), .int (nI ks), .ref mt, .ref mr_, .ref mk, .ref mo, .ref mh, .ref mse, .ref mhs, .ref msp, .ref msc, .ref mha])), (mse, .inl (g.2.1 0, 8, .inl fS))] ++ pl) := hD
  refine lv_aload_n hx hb dM_feed_5 rfl (lv_at hl 0 rfl) ?_
  refine va_get (D := g.1) (ci := 8) (C := "LatticeKeysModel") (T := T_M) (N := 14) hx hb hts (wg_ft i_M) hown hK hP 0 rfl rfl 1 (by decide) (hts _ (wg_t kw_1527)) (fun _ h9 => h9) rfl dM_feed_6 ?_
  refine lv_bipush (v := nI 20) hx hb dM_feed_9 (by decide) ?_
  refine mi_iadd hx hb dM_feed_11 ?_
  refine lv_sipush (v := nI 16384) hx hb dM_feed_12 (by decide) ?_
  refine mi_le (tgt := 24) hx hb dM_feed_15 (by decide) (by omega) (by omega) (fun h21 => ?_) (fun h21 => ?_)
  · refine lv_aload_n hx hb dM_feed_24 rfl (lv_at hl 0 rfl) ?_
    refine lv_iload_n hx hb dM_feed_25 rfl (lv_at hl 1 rfl) ?_
    refine mp_v (cx := [(h0, .inr (8, [.int (nI 0), .int (nI tp), .int (nI rs), .int (nI ks), .ref mt, .ref mr_, .ref mk, .ref mo, .ref mh, .ref mse, .ref mhs, .ref msp, .ref msc, .ref mha])), (mse, .inl (g.2.1 0, 8, .inl fS))]) (wr := []) hP hD hS hA [0, 1] [] rfl rfl rfl (by decide) (va_runV (As := [.int v1]) (rest := []) F (t_M_four l g _ T  pl hO hU  v1 h0 mt mr_ mk mo mh mse mhs msp msc mha tp rs ks (nI 0) fS k_mt k_mr_ k_mk k_mo k_mh k_mhs k_msp k_msc k_mha (by omega) hS5 (by omega)) (cwV 1 hts (wg_app (wg_c kw_1581 (wg_c kw_1583 (wg_c ks_51 (wg_c kw_9 wg_n)))) kw_1584) rfl rfl rfl (by decide +kernel) ⟨by decide, by decide⟩) (pp_V (en_ok g) (q0 := 0) hK hP hD hS hA hE [0, 1] rfl rfl rfl rfl) rfl rfl hl.1 rfl (lv_room (Nat.le_of_ble_eq_true rfl)) dM_feed_26 ⟨by omega, by omega⟩) (fun  u21 H locs hu21 hP hD hS => ?_)
    obtain ⟨u22, pl⟩ := u21
    obtain ⟨hq21, hO⟩ := hu21
    obtain ⟨th21, tp21, rs21, ks21, fS21⟩ := u22
    have hP : va_P g.1 vcl ([(h0, .inr (8, [.int th21, .int (nI tp21), .int (nI rs21), .int (nI ks21), .ref mt, .ref mr_, .ref mk, .ref mo, .ref mh, .ref mse, .ref mhs, .ref msp, .ref msc, .ref mha])), (mse, .inl (g.2.1 0, 8, .inl fS21))] ++ pl) _ := hP
    have hD : va_D _ ([(h0, .inr (8, [.int th21, .int (nI tp21), .int (nI rs21), .int (nI ks21), .ref mt, .ref mr_, .ref mk, .ref mo, .ref mh, .ref mse, .ref mhs, .ref msp, .ref msc, .ref mha])), (mse, .inl (g.2.1 0, 8, .inl fS21))] ++ pl) := hD
    obtain ⟨hm21, hm22, hm23, hm24, hm25⟩ := hq21
    have hm21 : tp21 ≤ 16384 := hm21
    have hm22 : rs21 ≤ 8192 := hm22
    have hm23 : ks21 ≤ 8 := hm23
    obtain ⟨he21, he22⟩ := hm25
    have he21 : tp21 = tp + 4 := he21
    refine W.widen (k := 0) (n := 0) (by omega) (by omega) ?_
    refine lv_aload_n hx hb dM_feed_29 rfl (lv_at hl 0 rfl) ?_
    refine lv_iload_n hx hb dM_feed_30 rfl (lv_at hl 2 rfl) ?_
    refine mp_v (cx := [(h0, .inr (8, [.int th21, .int (nI tp21), .int (nI rs21), .int (nI ks21), .ref mt, .ref mr_, .ref mk, .ref mo, .ref mh, .ref mse, .ref mhs, .ref msp, .ref msc, .ref mha])), (mse, .inl (g.2.1 0, 8, .inl fS21))]) (wr := []) hP hD hS hA [0, 1] [] rfl rfl rfl (by decide) (va_runV (As := [.int v2]) (rest := []) F (t_M_four l g _ T  pl hO hU  v2 h0 mt mr_ mk mo mh mse mhs msp msc mha tp21 rs21 ks21 th21 fS21 k_mt k_mr_ k_mk k_mo k_mh k_mhs k_msp k_msc k_mha (by omega) hm24 (by omega)) (cwV 1 hts (wg_app (wg_c kw_1581 (wg_c kw_1583 (wg_c ks_51 (wg_c kw_9 wg_n)))) kw_1584) rfl rfl rfl (by decide +kernel) ⟨by decide, by decide⟩) (pp_V (en_ok g) (q0 := 0) hK hP hD hS hA hE [0, 1] rfl rfl rfl rfl) rfl rfl hl.1 rfl (lv_room (Nat.le_of_ble_eq_true rfl)) dM_feed_31 ⟨by omega, by omega⟩) (fun  u23 H locs hu22 hP hD hS => ?_)
    obtain ⟨u24, pl⟩ := u23
    obtain ⟨hq22, hO⟩ := hu22
    obtain ⟨th22, tp22, rs22, ks22, fS22⟩ := u24
    have hP : va_P g.1 vcl ([(h0, .inr (8, [.int th22, .int (nI tp22), .int (nI rs22), .int (nI ks22), .ref mt, .ref mr_, .ref mk, .ref mo, .ref mh, .ref mse, .ref mhs, .ref msp, .ref msc, .ref mha])), (mse, .inl (g.2.1 0, 8, .inl fS22))] ++ pl) _ := hP
    have hD : va_D _ ([(h0, .inr (8, [.int th22, .int (nI tp22), .int (nI rs22), .int (nI ks22), .ref mt, .ref mr_, .ref mk, .ref mo, .ref mh, .ref mse, .ref mhs, .ref msp, .ref msc, .ref mha])), (mse, .inl (g.2.1 0, 8, .inl fS22))] ++ pl) := hD
    obtain ⟨hm26, hm27, hm28, hm29, hm30⟩ := hq22
    have hm26 : tp22 ≤ 16384 := hm26
    have hm27 : rs22 ≤ 8192 := hm27
    have hm28 : ks22 ≤ 8 := hm28
    obtain ⟨he23, he24⟩ := hm30
    have he23 : tp22 = tp21 + 4 := he23
    refine W.widen (k := 0) (n := 0) (by omega) (by omega) ?_
    refine lv_aload_n hx hb dM_feed_34 rfl (lv_at hl 0 rfl) ?_
    refine lv_iload_n hx hb dM_feed_35 rfl (lv_at hl 3 rfl) ?_
    refine mp_v (cx := [(h0, .inr (8, [.int th22, .int (nI tp22), .int (nI rs22), .int (nI ks22), .ref mt, .ref mr_, .ref mk, .ref mo, .ref mh, .ref mse, .ref mhs, .ref msp, .ref msc, .ref mha])), (mse, .inl (g.2.1 0, 8, .inl fS22))]) (wr := []) hP hD hS hA [0, 1] [] rfl rfl rfl (by decide) (va_runV (As := [.int v3]) (rest := []) F (t_M_four l g _ T  pl hO hU  v3 h0 mt mr_ mk mo mh mse mhs msp msc mha tp22 rs22 ks22 th22 fS22 k_mt k_mr_ k_mk k_mo k_mh k_mhs k_msp k_msc k_mha (by omega) hm29 (by omega)) (cwV 1 hts (wg_app (wg_c kw_1581 (wg_c kw_1583 (wg_c ks_51 (wg_c kw_9 wg_n)))) kw_1584) rfl rfl rfl (by decide +kernel) ⟨by decide, by decide⟩) (pp_V (en_ok g) (q0 := 0) hK hP hD hS hA hE [0, 1] rfl rfl rfl rfl) rfl rfl hl.1 rfl (lv_room (Nat.le_of_ble_eq_true rfl)) dM_feed_36 ⟨by omega, by omega⟩) (fun  u25 H locs hu23 hP hD hS => ?_)
    obtain ⟨u26, pl⟩ := u25
    obtain ⟨hq23, hO⟩ := hu23
    obtain ⟨th23, tp23, rs23, ks23, fS23⟩ := u26
    have hP : va_P g.1 vcl ([(h0, .inr (8, [.int th23, .int (nI tp23), .int (nI rs23), .int (nI ks23), .ref mt, .ref mr_, .ref mk, .ref mo, .ref mh, .ref mse, .ref mhs, .ref msp, .ref msc, .ref mha])), (mse, .inl (g.2.1 0, 8, .inl fS23))] ++ pl) _ := hP
    have hD : va_D _ ([(h0, .inr (8, [.int th23, .int (nI tp23), .int (nI rs23), .int (nI ks23), .ref mt, .ref mr_, .ref mk, .ref mo, .ref mh, .ref mse, .ref mhs, .ref msp, .ref msc, .ref mha])), (mse, .inl (g.2.1 0, 8, .inl fS23))] ++ pl) := hD
    obtain ⟨hm31, hm32, hm33, hm34, hm35⟩ := hq23
    have hm31 : tp23 ≤ 16384 := hm31
    have hm32 : rs23 ≤ 8192 := hm32
    have hm33 : ks23 ≤ 8 := hm33
    obtain ⟨he25, he26⟩ := hm35
    have he25 : tp23 = tp22 + 4 := he25
    refine W.widen (k := 0) (n := 0) (by omega) (by omega) ?_
    refine lv_aload_n hx hb dM_feed_39 rfl (lv_at hl 0 rfl) ?_
    refine lv_iload hx hb dM_feed_40 (lv_at hl 4 rfl) ?_
    refine mp_v (cx := [(h0, .inr (8, [.int th23, .int (nI tp23), .int (nI rs23), .int (nI ks23), .ref mt, .ref mr_, .ref mk, .ref mo, .ref mh, .ref mse, .ref mhs, .ref msp, .ref msc, .ref mha])), (mse, .inl (g.2.1 0, 8, .inl fS23))]) (wr := []) hP hD hS hA [0, 1] [] rfl rfl rfl (by decide) (va_runV (As := [.int v4]) (rest := []) F (t_M_four l g _ T  pl hO hU  v4 h0 mt mr_ mk mo mh mse mhs msp msc mha tp23 rs23 ks23 th23 fS23 k_mt k_mr_ k_mk k_mo k_mh k_mhs k_msp k_msc k_mha (by omega) hm34 (by omega)) (cwV 1 hts (wg_app (wg_c kw_1581 (wg_c kw_1583 (wg_c ks_51 (wg_c kw_9 wg_n)))) kw_1584) rfl rfl rfl (by decide +kernel) ⟨by decide, by decide⟩) (pp_V (en_ok g) (q0 := 0) hK hP hD hS hA hE [0, 1] rfl rfl rfl rfl) rfl rfl hl.1 rfl (lv_room (Nat.le_of_ble_eq_true rfl)) dM_feed_42 ⟨by omega, by omega⟩) (fun  u27 H locs hu24 hP hD hS => ?_)
    obtain ⟨u28, pl⟩ := u27
    obtain ⟨hq24, hO⟩ := hu24
    obtain ⟨th24, tp24, rs24, ks24, fS24⟩ := u28
    have hP : va_P g.1 vcl ([(h0, .inr (8, [.int th24, .int (nI tp24), .int (nI rs24), .int (nI ks24), .ref mt, .ref mr_, .ref mk, .ref mo, .ref mh, .ref mse, .ref mhs, .ref msp, .ref msc, .ref mha])), (mse, .inl (g.2.1 0, 8, .inl fS24))] ++ pl) _ := hP
    have hD : va_D _ ([(h0, .inr (8, [.int th24, .int (nI tp24), .int (nI rs24), .int (nI ks24), .ref mt, .ref mr_, .ref mk, .ref mo, .ref mh, .ref mse, .ref mhs, .ref msp, .ref msc, .ref mha])), (mse, .inl (g.2.1 0, 8, .inl fS24))] ++ pl) := hD
    obtain ⟨hm36, hm37, hm38, hm39, hm40⟩ := hq24
    have hm36 : tp24 ≤ 16384 := hm36
    have hm37 : rs24 ≤ 8192 := hm37
    have hm38 : ks24 ≤ 8 := hm38
    obtain ⟨he27, he28⟩ := hm40
    have he27 : tp24 = tp23 + 4 := he27
    refine W.widen (k := 0) (n := 0) (by omega) (by omega) ?_
    refine lv_aload_n hx hb dM_feed_45 rfl (lv_at hl 0 rfl) ?_
    refine lv_iload hx hb dM_feed_46 (lv_at hl 5 rfl) ?_
    refine mp_v (cx := [(h0, .inr (8, [.int th24, .int (nI tp24), .int (nI rs24), .int (nI ks24), .ref mt, .ref mr_, .ref mk, .ref mo, .ref mh, .ref mse, .ref mhs, .ref msp, .ref msc, .ref mha])), (mse, .inl (g.2.1 0, 8, .inl fS24))]) (wr := []) hP hD hS hA [0, 1] [] rfl rfl rfl (by decide) (va_runV (As := [.int v5]) (rest := []) F (t_M_four l g _ T  pl hO hU  v5 h0 mt mr_ mk mo mh mse mhs msp msc mha tp24 rs24 ks24 th24 fS24 k_mt k_mr_ k_mk k_mo k_mh k_mhs k_msp k_msc k_mha (by omega) hm39 (by omega)) (cwV 1 hts (wg_app (wg_c kw_1581 (wg_c kw_1583 (wg_c ks_51 (wg_c kw_9 wg_n)))) kw_1584) rfl rfl rfl (by decide +kernel) ⟨by decide, by decide⟩) (pp_V (en_ok g) (q0 := 0) hK hP hD hS hA hE [0, 1] rfl rfl rfl rfl) rfl rfl hl.1 rfl (lv_room (Nat.le_of_ble_eq_true rfl)) dM_feed_48 ⟨by omega, by omega⟩) (fun  u29 H locs hu25 hP hD hS => ?_)
    obtain ⟨u30, pl⟩ := u29
    obtain ⟨hq25, hO⟩ := hu25
    obtain ⟨th25, tp25, rs25, ks25, fS25⟩ := u30
    have hP : va_P g.1 vcl ([(h0, .inr (8, [.int th25, .int (nI tp25), .int (nI rs25), .int (nI ks25), .ref mt, .ref mr_, .ref mk, .ref mo, .ref mh, .ref mse, .ref mhs, .ref msp, .ref msc, .ref mha])), (mse, .inl (g.2.1 0, 8, .inl fS25))] ++ pl) _ := hP
    have hD : va_D _ ([(h0, .inr (8, [.int th25, .int (nI tp25), .int (nI rs25), .int (nI ks25), .ref mt, .ref mr_, .ref mk, .ref mo, .ref mh, .ref mse, .ref mhs, .ref msp, .ref msc, .ref mha])), (mse, .inl (g.2.1 0, 8, .inl fS25))] ++ pl) := hD
    obtain ⟨hm41, hm42, hm43, hm44, hm45⟩ := hq25
    have hm41 : tp25 ≤ 16384 := hm41
    have hm42 : rs25 ≤ 8192 := hm42
    have hm43 : ks25 ≤ 8 := hm43
    obtain ⟨he29, he30⟩ := hm45
    have he29 : tp25 = tp24 + 4 := he29
    refine W.widen (k := 0) (n := 0) (by omega) (by omega) ?_
    refine lv_aload_n hx hb dM_feed_51 rfl (lv_at hl 0 rfl) ?_
    refine va_get (D := g.1) (ci := 8) (C := "LatticeKeysModel") (T := T_M) (N := 14) hx hb hts (wg_ft i_M) hown hK hP 0 rfl rfl 1 (by decide) (hts _ (wg_t kw_1527)) (fun _ h9 => h9) rfl dM_feed_52 ?_
    exact mp_iret hx hb hr hlk hP hD hS ((th25, tp25, rs25, ks25, fS25), pl) ⟨⟨(by show tp25 ≤ 16384; omega), (by show rs25 ≤ 8192; omega), (by show ks25 ≤ 8; omega), hm44⟩, hO⟩ [0, 1] rfl rfl rfl (by omega) (by omega) dM_feed_55
  · refine lv_aload_n hx hb dM_feed_18 rfl (lv_at hl 0 rfl) ?_
    refine lv_iconst (v := nI 1) hx hb dM_feed_19 (by decide) ?_
    refine mp_i (cx := [(h0, .inr (8, [.int (nI 0), .int (nI tp), .int (nI rs), .int (nI ks), .ref mt, .ref mr_, .ref mk, .ref mo, .ref mh, .ref mse, .ref mhs, .ref msp, .ref msc, .ref mha])), (mse, .inl (g.2.1 0, 8, .inl fS))]) (wr := []) hP hD hS hA [0, 1] [] rfl rfl rfl (by decide) (va_runV (As := [.int (nI 1)]) (rest := []) F (t_M_fail l g _ T  pl hO hU  (nI 1) h0 mt mr_ mk mo mh mse mhs msp msc mha tp rs ks (nI 0) fS k_mt k_mr_ k_mk k_mo k_mh k_mhs k_msp k_msc k_mha (by omega) hS5) (cwV 1 hts (wg_app (wg_c kw_1577 (wg_c kw_1579 (wg_c ks_50 (wg_c kw_9 wg_n)))) kw_1580) rfl rfl rfl (by decide +kernel) ⟨by decide, by decide⟩) (pp_V (en_ok g) (q0 := 0) hK hP hD hS hA hE [0, 1] rfl rfl rfl rfl) rfl rfl hl.1 rfl (lv_room (Nat.le_of_ble_eq_true rfl)) dM_feed_20 ⟨by omega, by omega⟩) (fun r21 u31 H locs hu26 hP hD hS => ?_)
    obtain ⟨u32, pl⟩ := u31
    obtain ⟨hq26, hO⟩ := hu26
    obtain ⟨th26, tp26, rs26, ks26, fS26⟩ := u32
    have hP : va_P g.1 vcl ([(h0, .inr (8, [.int th26, .int (nI tp26), .int (nI rs26), .int (nI ks26), .ref mt, .ref mr_, .ref mk, .ref mo, .ref mh, .ref mse, .ref mhs, .ref msp, .ref msc, .ref mha])), (mse, .inl (g.2.1 0, 8, .inl fS26))] ++ pl) _ := hP
    have hD : va_D _ ([(h0, .inr (8, [.int th26, .int (nI tp26), .int (nI rs26), .int (nI ks26), .ref mt, .ref mr_, .ref mk, .ref mo, .ref mh, .ref mse, .ref mhs, .ref msp, .ref msc, .ref mha])), (mse, .inl (g.2.1 0, 8, .inl fS26))] ++ pl) := hD
    obtain ⟨-, -, -, hm49, hm50⟩ := hq26
    obtain ⟨he31, he32, he33, he34, he35⟩ := hm50
    have he31 : th26 = nI 1 := he31
    have he32 : tp26 = tp := he32
    have he33 : rs26 = rs := he33
    have he34 : ks26 = ks := he34
    obtain rfl := he35
    refine W.widen (k := 0) (n := 0) (by omega) (by omega) ?_
    exact mp_iret hx hb hr hlk hP hD hS ((th26, tp26, rs26, ks26, fS26), pl) ⟨⟨(by show tp26 ≤ 16384; omega), (by show rs26 ≤ 8192; omega), (by show ks26 ≤ 8; omega), hm49⟩, hO⟩ [0, 1] rfl rfl rfl (by omega) (by omega) dM_feed_23
set_option maxHeartbeats 4000000 in
set_option maxRecDepth 100000 in
theorem t_M_end (l : Launch) (g : Gd) (sz : Nat) (T : Ty) (pl : va_W) (hO : okx g T [] pl) (hU : uni T) (v : Int32) (h0 mt mr_ mk mo mh mse mhs msp msc mha tp rs ks : Nat) (x0 : Int32) (fS : Nat → Int32) (k_mt : T mt = some (1, 16384)) (k_mr_ : T mr_ = some (1, 8192)) (k_mk : T mk = some (1, 8192)) (k_mo : T mo = some (4, 2592)) (k_mh : T mh = some (4, 4896)) (k_mhs : T mhs = some (5, 4896)) (k_msp : T msp = some (20, 0)) (k_msc : T msc = some (23, 0)) (k_mha : T mha = some (49, 0)) (hb : tp ≤ 16384 ∧ rs ≤ 8192 ∧ ks ≤ 8) (hS5 : s5 fS)  : Met l y_M_end w_M_end ({ frames := 1, cells := 0, slots := 0, locals := 21 } : Room) (va_Pc [.ref h0, .int v] (pr (en g) g.1 vcl sz ([(h0, .inr (8, [.int x0, .int (nI tp), .int (nI rs), .int (nI ks), .ref mt, .ref mr_, .ref mk, .ref mo, .ref mh, .ref mse, .ref mhs, .ref msp, .ref msc, .ref mha])), (mse, .inl (g.2.1 0, 8, .inl fS))] ++ pl))) (va_Qi (fun (r : Int32) (u : (Int32 × Nat × Nat × Nat × (Nat → Int32)) × va_W) => (u.1.2.1 ≤ 16384 ∧ u.1.2.2.1 ≤ 8192 ∧ u.1.2.2.2.1 ≤ 8 ∧ s5 u.1.2.2.2.2) ∧ okx g T [] u.2) (po g.1 vcl (va_A ([(h0, .inr (8, [.int x0, .int (nI tp), .int (nI rs), .int (nI ks), .ref mt, .ref mr_, .ref mk, .ref mo, .ref mh, .ref mse, .ref mhs, .ref msp, .ref msc, .ref mha])), (mse, .inl (g.2.1 0, 8, .inl fS))] ++ pl) sz) (fun (u : (Int32 × Nat × Nat × Nat × (Nat → Int32)) × va_W) => [(h0, .inr (8, [.int u.1.1, .int (nI (u.1.2.1)), .int (nI (u.1.2.2.1)), .int (nI (u.1.2.2.2.1)), .ref mt, .ref mr_, .ref mk, .ref mo, .ref mh, .ref mse, .ref mhs, .ref msp, .ref msc, .ref mha])), (mse, .inl (g.2.1 0, 8, .inl ((u.1.2.2.2.2))))] ++ u.2)) (va_A ([(h0, .inr (8, [.int x0, .int (nI tp), .int (nI rs), .int (nI ks), .ref mt, .ref mr_, .ref mk, .ref mo, .ref mh, .ref mse, .ref mhs, .ref msp, .ref msc, .ref mha])), (mse, .inl (g.2.1 0, 8, .inl fS))] ++ pl) sz)) 0 0 (va_A ([(h0, .inr (8, [.int x0, .int (nI tp), .int (nI rs), .int (nI ks), .ref mt, .ref mr_, .ref mk, .ref mo, .ref mh, .ref mse, .ref mhs, .ref msp, .ref msc, .ref mha])), (mse, .inl (g.2.1 0, 8, .inl fS))] ++ pl) sz) := by
  refine mc_entry (cc := c_M_end) (maxL := 2) (ret := (some .int)) (by decide) rfl (Nat.le_of_ble_eq_true rfl) ?_
  intro p e s m args below meth c ls F hr hlk hnm hsz hP hD hE hA hl
  obtain ⟨hx, hb, hml, hown, hts⟩ := id F
  have hK := hE.1
  generalize va_A ([(h0, .inr (8, [.int x0, .int (nI tp), .int (nI rs), .int (nI ks), .ref mt, .ref mr_, .ref mk, .ref mo, .ref mh, .ref mse, .ref mhs, .ref msp, .ref msc, .ref mha])), (mse, .inl (g.2.1 0, 8, .inl fS))] ++ pl) sz = A at hD hE hA ⊢
  have hS : va_S A s.heap s.heap [] := va_S.rf
  have hl : lv_has ls 2 [(0, .ref h0), (1, .int v)] := hl
  refine lv_aload_n hx hb dM_end_0 rfl (lv_at hl 0 rfl) ?_
  refine lv_iconst (v := nI 0) hx hb dM_end_1 (by decide) ?_
  refine va_put (D := g.1) (ci := 8) (v := .int (nI 0)) (ty := .int) (C := "LatticeKeysModel") (T := T_M) (N := 14) hx hb hts (wg_ft i_M) ty_M k_M n_M hown hK hP hD hS 0 rfl rfl 0 (by decide) (hts _ (wg_t kw_1526)) (fun _ h9 => h9) rfl (by decide +kernel) rfl rfl (Nat.le_of_ble_eq_true rfl) dM_end_2 (fun H locs hP hD hS => ?_)
  have hP : va_P g.1 vcl ([(h0, .inr (8, [.int (nI 0), .int (nI tp), .int (nI rs), .int (nI ks), .ref mt, .ref mr_, .ref mk, .ref mo, .ref mh, .ref mse, .ref mhs, .ref msp, .ref msc, .ref mha])), (mse, .inl (g.2.1 0, 8, .inl fS))] ++ pl) _ := hP
  have hD : va_D _ ([(h0, .inr (8, [.int (nI 0), .int (nI tp), .int (nI rs), .int (nI ks), .ref mt, .ref mr_, .ref mk, .ref mo, .ref mh, .ref mse, .ref mhs, .ref msp, .ref msc, .ref mha])), (mse, .inl (g.2.1 0, 8, .inl fS))] ++ pl) := hD
  refine lv_iload_n hx hb dM_end_5 rfl (lv_at hl 1 rfl) ?_
  refine lv_if_lt (tgt := 17) hx hb dM_end_6 (by decide) (fun h21 => ?_) (fun h21 => ?_)
  · refine lv_aload_n hx hb dM_end_17 rfl (lv_at hl 0 rfl) ?_
    refine lv_iconst (v := nI 1) hx hb dM_end_18 (by decide) ?_
    refine mp_i (cx := [(h0, .inr (8, [.int (nI 0), .int (nI tp), .int (nI rs), .int (nI ks), .ref mt, .ref mr_, .ref mk, .ref mo, .ref mh, .ref mse, .ref mhs, .ref msp, .ref msc, .ref mha])), (mse, .inl (g.2.1 0, 8, .inl fS))]) (wr := []) hP hD hS hA [0, 1] [] rfl rfl rfl (by decide) (va_runV (As := [.int (nI 1)]) (rest := []) F (t_M_fail l g _ T  pl hO hU  (nI 1) h0 mt mr_ mk mo mh mse mhs msp msc mha tp rs ks (nI 0) fS k_mt k_mr_ k_mk k_mo k_mh k_mhs k_msp k_msc k_mha (by omega) hS5) (cwV 1 hts (wg_app (wg_c kw_1577 (wg_c kw_1579 (wg_c ks_50 (wg_c kw_9 wg_n)))) kw_1580) rfl rfl rfl (by decide +kernel) ⟨by decide, by decide⟩) (pp_V (en_ok g) (q0 := 0) hK hP hD hS hA hE [0, 1] rfl rfl rfl rfl) rfl rfl hl.1 rfl (lv_room (Nat.le_of_ble_eq_true rfl)) dM_end_19 ⟨by omega, by omega⟩) (fun r21 u21 H locs hu21 hP hD hS => ?_)
    obtain ⟨u22, pl⟩ := u21
    obtain ⟨hq21, hO⟩ := hu21
    obtain ⟨th21, tp21, rs21, ks21, fS21⟩ := u22
    have hP : va_P g.1 vcl ([(h0, .inr (8, [.int th21, .int (nI tp21), .int (nI rs21), .int (nI ks21), .ref mt, .ref mr_, .ref mk, .ref mo, .ref mh, .ref mse, .ref mhs, .ref msp, .ref msc, .ref mha])), (mse, .inl (g.2.1 0, 8, .inl fS21))] ++ pl) _ := hP
    have hD : va_D _ ([(h0, .inr (8, [.int th21, .int (nI tp21), .int (nI rs21), .int (nI ks21), .ref mt, .ref mr_, .ref mk, .ref mo, .ref mh, .ref mse, .ref mhs, .ref msp, .ref msc, .ref mha])), (mse, .inl (g.2.1 0, 8, .inl fS21))] ++ pl) := hD
    obtain ⟨-, -, -, hm24, hm25⟩ := hq21
    obtain ⟨he21, he22, he23, he24, he25⟩ := hm25
    have he21 : th21 = nI 1 := he21
    have he22 : tp21 = tp := he22
    have he23 : rs21 = rs := he23
    have he24 : ks21 = ks := he24
    obtain rfl := he25
    refine W.widen (k := 0) (n := 0) (by omega) (by omega) ?_
    exact mp_iret hx hb hr hlk hP hD hS ((th21, tp21, rs21, ks21, fS21), pl) ⟨⟨(by show tp21 ≤ 16384; omega), (by show rs21 ≤ 8192; omega), (by show ks21 ≤ 8; omega), hm24⟩, hO⟩ [0, 1] rfl rfl rfl (by omega) (by omega) dM_end_22
  · refine lv_iload_n hx hb dM_end_9 rfl (lv_at hl 1 rfl) ?_
    refine lv_aload_n hx hb dM_end_10 rfl (lv_at hl 0 rfl) ?_
    refine va_get (D := g.1) (ci := 8) (C := "LatticeKeysModel") (T := T_M) (N := 14) hx hb hts (wg_ft i_M) hown hK hP 0 rfl rfl 1 (by decide) (hts _ (wg_t kw_1527)) (fun _ h9 => h9) rfl dM_end_11 ?_
    refine lv_icmp_le (tgt := 23) hx hb dM_end_14 (by decide) (fun h22 => ?_) (fun h22 => ?_)
    · obtain ⟨z21, hz21, rfl⟩ := i32_le h21 (by omega) h22
      refine lv_aload_n hx hb dM_end_23 rfl (lv_at hl 0 rfl) ?_
      refine lv_iload_n hx hb dM_end_24 rfl (lv_at hl 1 rfl) ?_
      refine va_put (D := g.1) (ci := 8) (v := .int (nI z21)) (ty := .int) (C := "LatticeKeysModel") (T := T_M) (N := 14) hx hb hts (wg_ft i_M) ty_M k_M n_M hown hK hP hD hS 0 rfl rfl 1 (by decide) (hts _ (wg_t kw_1527)) (fun _ h9 => h9) rfl (by decide +kernel) rfl rfl (Nat.le_of_ble_eq_true rfl) dM_end_25 (fun H locs hP hD hS => ?_)
      have hP : va_P g.1 vcl ([(h0, .inr (8, [.int (nI 0), .int (nI z21), .int (nI rs), .int (nI ks), .ref mt, .ref mr_, .ref mk, .ref mo, .ref mh, .ref mse, .ref mhs, .ref msp, .ref msc, .ref mha])), (mse, .inl (g.2.1 0, 8, .inl fS))] ++ pl) _ := hP
      have hD : va_D _ ([(h0, .inr (8, [.int (nI 0), .int (nI z21), .int (nI rs), .int (nI ks), .ref mt, .ref mr_, .ref mk, .ref mo, .ref mh, .ref mse, .ref mhs, .ref msp, .ref msc, .ref mha])), (mse, .inl (g.2.1 0, 8, .inl fS))] ++ pl) := hD
      refine lv_iload_n hx hb dM_end_28 rfl (lv_at hl 1 rfl) ?_
      exact mp_iret hx hb hr hlk hP hD hS ((nI 0, z21, rs, ks, fS), pl) ⟨⟨(by show z21 ≤ 16384; omega), (by show rs ≤ 8192; omega), (by show ks ≤ 8; omega), hS5⟩, hO⟩ [0, 1] rfl rfl rfl (by omega) (by omega) dM_end_29
    · refine lv_aload_n hx hb dM_end_17 rfl (lv_at hl 0 rfl) ?_
      refine lv_iconst (v := nI 1) hx hb dM_end_18 (by decide) ?_
      refine mp_i (cx := [(h0, .inr (8, [.int (nI 0), .int (nI tp), .int (nI rs), .int (nI ks), .ref mt, .ref mr_, .ref mk, .ref mo, .ref mh, .ref mse, .ref mhs, .ref msp, .ref msc, .ref mha])), (mse, .inl (g.2.1 0, 8, .inl fS))]) (wr := []) hP hD hS hA [0, 1] [] rfl rfl rfl (by decide) (va_runV (As := [.int (nI 1)]) (rest := []) F (t_M_fail l g _ T  pl hO hU  (nI 1) h0 mt mr_ mk mo mh mse mhs msp msc mha tp rs ks (nI 0) fS k_mt k_mr_ k_mk k_mo k_mh k_mhs k_msp k_msc k_mha (by omega) hS5) (cwV 1 hts (wg_app (wg_c kw_1577 (wg_c kw_1579 (wg_c ks_50 (wg_c kw_9 wg_n)))) kw_1580) rfl rfl rfl (by decide +kernel) ⟨by decide, by decide⟩) (pp_V (en_ok g) (q0 := 0) hK hP hD hS hA hE [0, 1] rfl rfl rfl rfl) rfl rfl hl.1 rfl (lv_room (Nat.le_of_ble_eq_true rfl)) dM_end_19 ⟨by omega, by omega⟩) (fun r22 u23 H locs hu22 hP hD hS => ?_)
      obtain ⟨u24, pl⟩ := u23
      obtain ⟨hq22, hO⟩ := hu22
      obtain ⟨th22, tp22, rs22, ks22, fS22⟩ := u24
      have hP : va_P g.1 vcl ([(h0, .inr (8, [.int th22, .int (nI tp22), .int (nI rs22), .int (nI ks22), .ref mt, .ref mr_, .ref mk, .ref mo, .ref mh, .ref mse, .ref mhs, .ref msp, .ref msc, .ref mha])), (mse, .inl (g.2.1 0, 8, .inl fS22))] ++ pl) _ := hP
      have hD : va_D _ ([(h0, .inr (8, [.int th22, .int (nI tp22), .int (nI rs22), .int (nI ks22), .ref mt, .ref mr_, .ref mk, .ref mo, .ref mh, .ref mse, .ref mhs, .ref msp, .ref msc, .ref mha])), (mse, .inl (g.2.1 0, 8, .inl fS22))] ++ pl) := hD
      obtain ⟨-, -, -, hm29, hm30⟩ := hq22
      obtain ⟨he26, he27, he28, he29, he30⟩ := hm30
      have he26 : th22 = nI 1 := he26
      have he27 : tp22 = tp := he27
      have he28 : rs22 = rs := he28
      have he29 : ks22 = ks := he29
      obtain rfl := he30
      refine W.widen (k := 0) (n := 0) (by omega) (by omega) ?_
      exact mp_iret hx hb hr hlk hP hD hS ((th22, tp22, rs22, ks22, fS22), pl) ⟨⟨(by show tp22 ≤ 16384; omega), (by show rs22 ≤ 8192; omega), (by show ks22 ≤ 8; omega), hm29⟩, hO⟩ [0, 1] rfl rfl rfl (by omega) (by omega) dM_end_22
set_option maxHeartbeats 4000000 in
set_option maxRecDepth 100000 in
theorem t_M_again (l : Launch) (g : Gd) (sz : Nat) (T : Ty) (pl : va_W) (hO : okx g T [] pl) (hU : uni T) (h0 mt mr_ mk mo mh mse mhs msp msc mha tp rs ks : Nat) (x0 : Int32) (fS : Nat → Int32) (k_mt : T mt = some (1, 16384)) (k_mr_ : T mr_ = some (1, 8192)) (k_mk : T mk = some (1, 8192)) (k_mo : T mo = some (4, 2592)) (k_mh : T mh = some (4, 4896)) (k_mhs : T mhs = some (5, 4896)) (k_msp : T msp = some (20, 0)) (k_msc : T msc = some (23, 0)) (k_mha : T mha = some (49, 0)) (hb : tp ≤ 16384 ∧ rs ≤ 8192 ∧ ks ≤ 8) (hS5 : s5 fS)  : Met l y_M_again w_M_again ({ frames := 1, cells := 0, slots := 0, locals := 21 } : Room) (va_Pc [.ref h0] (pr (en g) g.1 vcl sz ([(h0, .inr (8, [.int x0, .int (nI tp), .int (nI rs), .int (nI ks), .ref mt, .ref mr_, .ref mk, .ref mo, .ref mh, .ref mse, .ref mhs, .ref msp, .ref msc, .ref mha])), (mse, .inl (g.2.1 0, 8, .inl fS))] ++ pl))) (va_Qi (fun (r : Int32) (u : (Int32 × Nat × Nat × Nat × (Nat → Int32)) × va_W) => (u.1.2.1 ≤ 16384 ∧ u.1.2.2.1 ≤ 8192 ∧ u.1.2.2.2.1 ≤ 8 ∧ s5 u.1.2.2.2.2) ∧ okx g T [] u.2) (po g.1 vcl (va_A ([(h0, .inr (8, [.int x0, .int (nI tp), .int (nI rs), .int (nI ks), .ref mt, .ref mr_, .ref mk, .ref mo, .ref mh, .ref mse, .ref mhs, .ref msp, .ref msc, .ref mha])), (mse, .inl (g.2.1 0, 8, .inl fS))] ++ pl) sz) (fun (u : (Int32 × Nat × Nat × Nat × (Nat → Int32)) × va_W) => [(h0, .inr (8, [.int u.1.1, .int (nI (u.1.2.1)), .int (nI (u.1.2.2.1)), .int (nI (u.1.2.2.2.1)), .ref mt, .ref mr_, .ref mk, .ref mo, .ref mh, .ref mse, .ref mhs, .ref msp, .ref msc, .ref mha])), (mse, .inl (g.2.1 0, 8, .inl ((u.1.2.2.2.2))))] ++ u.2)) (va_A ([(h0, .inr (8, [.int x0, .int (nI tp), .int (nI rs), .int (nI ks), .ref mt, .ref mr_, .ref mk, .ref mo, .ref mh, .ref mse, .ref mhs, .ref msp, .ref msc, .ref mha])), (mse, .inl (g.2.1 0, 8, .inl fS))] ++ pl) sz)) 0 0 (va_A ([(h0, .inr (8, [.int x0, .int (nI tp), .int (nI rs), .int (nI ks), .ref mt, .ref mr_, .ref mk, .ref mo, .ref mh, .ref mse, .ref mhs, .ref msp, .ref msc, .ref mha])), (mse, .inl (g.2.1 0, 8, .inl fS))] ++ pl) sz) := by
  refine mc_entry (cc := c_M_again) (maxL := 2) (ret := (some .int)) (by decide) rfl (Nat.le_of_ble_eq_true rfl) ?_
  intro p e s m args below meth c ls F hr hlk hnm hsz hP hD hE hA hl
  obtain ⟨hx, hb, hml, hown, hts⟩ := id F
  have hK := hE.1
  generalize va_A ([(h0, .inr (8, [.int x0, .int (nI tp), .int (nI rs), .int (nI ks), .ref mt, .ref mr_, .ref mk, .ref mo, .ref mh, .ref mse, .ref mhs, .ref msp, .ref msc, .ref mha])), (mse, .inl (g.2.1 0, 8, .inl fS))] ++ pl) sz = A at hD hE hA ⊢
  have hS : va_S A s.heap s.heap [] := va_S.rf
  have hl : lv_has ls 2 [(0, .ref h0)] := hl
  refine lv_aload_n hx hb dM_again_0 rfl (lv_at hl 0 rfl) ?_
  refine lv_iconst (v := nI 0) hx hb dM_again_1 (by decide) ?_
  refine va_put (D := g.1) (ci := 8) (v := .int (nI 0)) (ty := .int) (C := "LatticeKeysModel") (T := T_M) (N := 14) hx hb hts (wg_ft i_M) ty_M k_M n_M hown hK hP hD hS 0 rfl rfl 0 (by decide) (hts _ (wg_t kw_1526)) (fun _ h9 => h9) rfl (by decide +kernel) rfl rfl (Nat.le_of_ble_eq_true rfl) dM_again_2 (fun H locs hP hD hS => ?_)
  have hP : va_P g.1 vcl ([(h0, .inr (8, [.int (nI 0), .int (nI tp), .int (nI rs), .int (nI ks), .ref mt, .ref mr_, .ref mk, .ref mo, .ref mh, .ref mse, .ref mhs, .ref msp, .ref msc, .ref mha])), (mse, .inl (g.2.1 0, 8, .inl fS))] ++ pl) _ := hP
  have hD : va_D _ ([(h0, .inr (8, [.int (nI 0), .int (nI tp), .int (nI rs), .int (nI ks), .ref mt, .ref mr_, .ref mk, .ref mo, .ref mh, .ref mse, .ref mhs, .ref msp, .ref msc, .ref mha])), (mse, .inl (g.2.1 0, 8, .inl fS))] ++ pl) := hD
  refine lv_aload_n hx hb dM_again_5 rfl (lv_at hl 0 rfl) ?_
  refine va_get (D := g.1) (ci := 8) (C := "LatticeKeysModel") (T := T_M) (N := 14) hx hb hts (wg_ft i_M) hown hK hP 0 rfl rfl 1 (by decide) (hts _ (wg_t kw_1527)) (fun _ h9 => h9) rfl dM_again_6 ?_
  refine lv_aload_n hx hb dM_again_9 rfl (lv_at hl 0 rfl) ?_
  refine va_get (D := g.1) (ci := 8) (C := "LatticeKeysModel") (T := T_M) (N := 14) hx hb hts (wg_ft i_M) hown hK hP 0 rfl rfl 2 (by decide) (hts _ (wg_t kw_1528)) (fun _ h9 => h9) rfl dM_again_10 ?_
  refine mi_iadd hx hb dM_again_13 ?_
  refine lv_sipush (v := nI 16384) hx hb dM_again_14 (by decide) ?_
  refine mi_le (tgt := 26) hx hb dM_again_17 (by decide) (by omega) (by omega) (fun h21 => ?_) (fun h21 => ?_)
  · refine lv_iconst (v := nI 0) hx hb dM_again_26 (by decide) ?_
    refine lv_istore_n (lv' := [(1, .int (nI 0)), (0, .ref h0)]) hx hb dM_again_27 rfl hl (by decide) rfl (fun ls hl => ?_)
    have lp21 : ∀ (n21 : Nat) (i21 : Nat) (pl : va_W) (ls : Array Slot) (H : Heap) (locs : List Loc), n21 + i21 = rs → lv_has ls 2 [(1, .int (nI i21)), (0, .ref h0)] → okx g T [] pl → va_P g.1 vcl ([(h0, .inr (8, [.int (nI 0), .int (nI tp), .int (nI rs), .int (nI ks), .ref mt, .ref mr_, .ref mk, .ref mo, .ref mh, .ref mse, .ref mhs, .ref msp, .ref msc, .ref mha])), (mse, .inl (g.2.1 0, 8, .inl fS))] ++ pl) H → va_D A ([(h0, .inr (8, [.int (nI 0), .int (nI tp), .int (nI rs), .int (nI ks), .ref mt, .ref mr_, .ref mk, .ref mo, .ref mh, .ref mse, .ref mhs, .ref msp, .ref msc, .ref mha])), (mse, .inl (g.2.1 0, 8, .inl fS))] ++ pl) → va_S A s.heap H locs → W p l e ({ frames := 1, cells := 0, slots := 0, locals := 21 } : Room) s m args below meth c H locs 0 0 (MQ below (va_Qi (fun (r : Int32) (u : (Int32 × Nat × Nat × Nat × (Nat → Int32)) × va_W) => (u.1.2.1 ≤ 16384 ∧ u.1.2.2.1 ≤ 8192 ∧ u.1.2.2.2.1 ≤ 8 ∧ s5 u.1.2.2.2.2) ∧ okx g T [] u.2) (po g.1 vcl A (fun (u : (Int32 × Nat × Nat × Nat × (Nat → Int32)) × va_W) => [(h0, .inr (8, [.int u.1.1, .int (nI (u.1.2.1)), .int (nI (u.1.2.2.1)), .int (nI (u.1.2.2.2.1)), .ref mt, .ref mr_, .ref mk, .ref mo, .ref mh, .ref mse, .ref mhs, .ref msp, .ref msc, .ref mha])), (mse, .inl (g.2.1 0, 8, .inl ((u.1.2.2.2.2))))] ++ u.2)) A) args s 0 0 A) (F0 m 28 ls []) := by
      intro n21
      induction n21 with
      | zero =>
        intro i21 pl ls H locs hm21  hl hO hP hD hS
        refine lv_iload_n hx hb dM_again_28 rfl (lv_at hl 0 rfl) ?_
        refine lv_aload_n hx hb dM_again_29 rfl (lv_at hl 1 rfl) ?_
        refine va_get (D := g.1) (ci := 8) (C := "LatticeKeysModel") (T := T_M) (N := 14) hx hb hts (wg_ft i_M) hown hK hP 0 rfl rfl 2 (by decide) (hts _ (wg_t kw_1528)) (fun _ h9 => h9) rfl dM_again_30 ?_
        refine mi_ge (tgt := 59) hx hb dM_again_33 (by decide) (by omega) (by omega) (fun h22 => ?_) (fun h22 => absurd h22 (by omega))
        refine lv_aload_n hx hb dM_again_59 rfl (lv_at hl 1 rfl) ?_
        refine lv_dup hx hb dM_again_60 rfl ?_
        refine va_get (D := g.1) (ci := 8) (C := "LatticeKeysModel") (T := T_M) (N := 14) hx hb hts (wg_ft i_M) hown hK hP 0 rfl rfl 1 (by decide) (hts _ (wg_t kw_1527)) (fun _ h9 => h9) rfl dM_again_61 ?_
        refine lv_aload_n hx hb dM_again_64 rfl (lv_at hl 1 rfl) ?_
        refine va_get (D := g.1) (ci := 8) (C := "LatticeKeysModel") (T := T_M) (N := 14) hx hb hts (wg_ft i_M) hown hK hP 0 rfl rfl 2 (by decide) (hts _ (wg_t kw_1528)) (fun _ h9 => h9) rfl dM_again_65 ?_
        refine mi_iadd hx hb dM_again_68 ?_
        refine va_put (D := g.1) (ci := 8) (v := .int (nI (tp + rs))) (ty := .int) (C := "LatticeKeysModel") (T := T_M) (N := 14) hx hb hts (wg_ft i_M) ty_M k_M n_M hown hK hP hD hS 0 rfl rfl 1 (by decide) (hts _ (wg_t kw_1527)) (fun _ h9 => h9) rfl (by decide +kernel) rfl rfl (Nat.le_of_ble_eq_true rfl) dM_again_69 (fun H locs hP hD hS => ?_)
        have hP : va_P g.1 vcl ([(h0, .inr (8, [.int (nI 0), .int (nI (tp + rs)), .int (nI rs), .int (nI ks), .ref mt, .ref mr_, .ref mk, .ref mo, .ref mh, .ref mse, .ref mhs, .ref msp, .ref msc, .ref mha])), (mse, .inl (g.2.1 0, 8, .inl fS))] ++ pl) _ := hP
        have hD : va_D _ ([(h0, .inr (8, [.int (nI 0), .int (nI (tp + rs)), .int (nI rs), .int (nI ks), .ref mt, .ref mr_, .ref mk, .ref mo, .ref mh, .ref mse, .ref mhs, .ref msp, .ref msc, .ref mha])), (mse, .inl (g.2.1 0, 8, .inl fS))] ++ pl) := hD
        refine lv_aload_n hx hb dM_again_72 rfl (lv_at hl 1 rfl) ?_
        refine va_get (D := g.1) (ci := 8) (C := "LatticeKeysModel") (T := T_M) (N := 14) hx hb hts (wg_ft i_M) hown hK hP 0 rfl rfl 1 (by decide) (hts _ (wg_t kw_1527)) (fun _ h9 => h9) rfl dM_again_73 ?_
        exact mp_iret hx hb hr hlk hP hD hS ((nI 0, tp + rs, rs, ks, fS), pl) ⟨⟨(by show tp + rs ≤ 16384; omega), (by show rs ≤ 8192; omega), (by show ks ≤ 8; omega), hS5⟩, hO⟩ [0, 1] rfl rfl rfl (by omega) (by omega) dM_again_76
      | succ n21 ih21 =>
        intro i21 pl ls H locs hm21  hl hO hP hD hS
        refine lv_iload_n hx hb dM_again_28 rfl (lv_at hl 0 rfl) ?_
        refine lv_aload_n hx hb dM_again_29 rfl (lv_at hl 1 rfl) ?_
        refine va_get (D := g.1) (ci := 8) (C := "LatticeKeysModel") (T := T_M) (N := 14) hx hb hts (wg_ft i_M) hown hK hP 0 rfl rfl 2 (by decide) (hts _ (wg_t kw_1528)) (fun _ h9 => h9) rfl dM_again_30 ?_
        refine mi_ge (tgt := 59) hx hb dM_again_33 (by decide) (by omega) (by omega) (fun h23 => absurd h23 (by omega)) (fun h23 => ?_)
        refine lv_aload_n hx hb dM_again_36 rfl (lv_at hl 1 rfl) ?_
        refine va_get (D := g.1) (ci := 8) (C := "LatticeKeysModel") (T := T_M) (N := 14) hx hb hts (wg_ft i_M) hown hK hP 0 rfl rfl 4 (by decide) (hts _ (wg_t kw_1530)) (fun _ h9 => h9) rfl dM_again_37 ?_
        refine lv_aload_n hx hb dM_again_40 rfl (lv_at hl 1 rfl) ?_
        refine va_get (D := g.1) (ci := 8) (C := "LatticeKeysModel") (T := T_M) (N := 14) hx hb hts (wg_ft i_M) hown hK hP 0 rfl rfl 1 (by decide) (hts _ (wg_t kw_1527)) (fun _ h9 => h9) rfl dM_again_41 ?_
        refine lv_iload_n hx hb dM_again_44 rfl (lv_at hl 0 rfl) ?_
        refine mi_iadd hx hb dM_again_45 ?_
        refine lv_aload_n hx hb dM_again_46 rfl (lv_at hl 1 rfl) ?_
        refine va_get (D := g.1) (ci := 8) (C := "LatticeKeysModel") (T := T_M) (N := 14) hx hb hts (wg_ft i_M) hown hK hP 0 rfl rfl 5 (by decide) (hts _ (wg_t kw_1531)) (fun _ h9 => h9) rfl dM_again_47 ?_
        refine lv_iload_n hx hb dM_again_50 rfl (lv_at hl 0 rfl) ?_
        refine ty_bald hx hb hK hO k_mr_ (nxg clo_nil k_mr_ rfl) hP (vp_in_nI (by omega) (by decide)) dM_again_51 (fun z21 => ?_)
        refine ty_bast hx hb hK hO k_mt (nxg clo_nil k_mt rfl) hP hD hS (vp_in_nI (by omega) (by decide)) dM_again_52 (fun pl H locs hO hP hD hS => ?_)
        refine mi_iinc (k := 0) (x := i21) (d := 1) (y := i21 + 1) (lv' := [(1, .int (nI (i21 + 1))), (0, .ref h0)]) hx hb dM_again_53 hl rfl (by decide) rfl (by decide) rfl (fun ls hl => ?_)
        refine lv_goto (tgt := 28) hx hb dM_again_56 (by decide) ?_
        exact ih21 (i21 + 1) pl ls H locs (by omega) (lv_sub hl [0, 1] rfl) hO hP hD hS
    exact lp21 rs 0 pl ls _ _ (by omega) (lv_sub hl [0, 1] rfl) hO hP hD hS
  · refine lv_aload_n hx hb dM_again_20 rfl (lv_at hl 0 rfl) ?_
    refine lv_iconst (v := nI 1) hx hb dM_again_21 (by decide) ?_
    refine mp_i (cx := [(h0, .inr (8, [.int (nI 0), .int (nI tp), .int (nI rs), .int (nI ks), .ref mt, .ref mr_, .ref mk, .ref mo, .ref mh, .ref mse, .ref mhs, .ref msp, .ref msc, .ref mha])), (mse, .inl (g.2.1 0, 8, .inl fS))]) (wr := []) hP hD hS hA [0, 1] [] rfl rfl rfl (by decide) (va_runV (As := [.int (nI 1)]) (rest := []) F (t_M_fail l g _ T  pl hO hU  (nI 1) h0 mt mr_ mk mo mh mse mhs msp msc mha tp rs ks (nI 0) fS k_mt k_mr_ k_mk k_mo k_mh k_mhs k_msp k_msc k_mha (by omega) hS5) (cwV 1 hts (wg_app (wg_c kw_1577 (wg_c kw_1579 (wg_c ks_50 (wg_c kw_9 wg_n)))) kw_1580) rfl rfl rfl (by decide +kernel) ⟨by decide, by decide⟩) (pp_V (en_ok g) (q0 := 0) hK hP hD hS hA hE [0, 1] rfl rfl rfl rfl) rfl rfl hl.1 rfl (lv_room (Nat.le_of_ble_eq_true rfl)) dM_again_22 ⟨by omega, by omega⟩) (fun r21 u21 H locs hu21 hP hD hS => ?_)
    obtain ⟨u22, pl⟩ := u21
    obtain ⟨hq21, hO⟩ := hu21
    obtain ⟨th21, tp21, rs21, ks21, fS21⟩ := u22
    have hP : va_P g.1 vcl ([(h0, .inr (8, [.int th21, .int (nI tp21), .int (nI rs21), .int (nI ks21), .ref mt, .ref mr_, .ref mk, .ref mo, .ref mh, .ref mse, .ref mhs, .ref msp, .ref msc, .ref mha])), (mse, .inl (g.2.1 0, 8, .inl fS21))] ++ pl) _ := hP
    have hD : va_D _ ([(h0, .inr (8, [.int th21, .int (nI tp21), .int (nI rs21), .int (nI ks21), .ref mt, .ref mr_, .ref mk, .ref mo, .ref mh, .ref mse, .ref mhs, .ref msp, .ref msc, .ref mha])), (mse, .inl (g.2.1 0, 8, .inl fS21))] ++ pl) := hD
    obtain ⟨-, -, -, hm25, hm26⟩ := hq21
    obtain ⟨he21, he22, he23, he24, he25⟩ := hm26
    have he21 : th21 = nI 1 := he21
    have he22 : tp21 = tp := he22
    have he23 : rs21 = rs := he23
    have he24 : ks21 = ks := he24
    obtain rfl := he25
    refine W.widen (k := 0) (n := 0) (by omega) (by omega) ?_
    exact mp_iret hx hb hr hlk hP hD hS ((th21, tp21, rs21, ks21, fS21), pl) ⟨⟨(by show tp21 ≤ 16384; omega), (by show rs21 ≤ 8192; omega), (by show ks21 ≤ 8; omega), hm25⟩, hO⟩ [0, 1] rfl rfl rfl (by omega) (by omega) dM_again_25
set_option maxHeartbeats 4000000 in
set_option maxRecDepth 100000 in
theorem t_M_alter (l : Launch) (g : Gd) (sz : Nat) (T : Ty) (pl : va_W) (hO : okx g T [] pl) (hU : uni T) (v : Int32) (v2 : Int32) (h0 mt mr_ mk mo mh mse mhs msp msc mha tp rs ks : Nat) (x0 : Int32) (fS : Nat → Int32) (k_mt : T mt = some (1, 16384)) (k_mr_ : T mr_ = some (1, 8192)) (k_mk : T mk = some (1, 8192)) (k_mo : T mo = some (4, 2592)) (k_mh : T mh = some (4, 4896)) (k_mhs : T mhs = some (5, 4896)) (k_msp : T msp = some (20, 0)) (k_msc : T msc = some (23, 0)) (k_mha : T mha = some (49, 0)) (hb : tp ≤ 16384 ∧ rs ≤ 8192 ∧ ks ≤ 8) (hS5 : s5 fS)  : Met l y_M_alter w_M_alter ({ frames := 1, cells := 0, slots := 0, locals := 21 } : Room) (va_Pc [.ref h0, .int v, .int v2] (pr (en g) g.1 vcl sz ([(h0, .inr (8, [.int x0, .int (nI tp), .int (nI rs), .int (nI ks), .ref mt, .ref mr_, .ref mk, .ref mo, .ref mh, .ref mse, .ref mhs, .ref msp, .ref msc, .ref mha])), (mse, .inl (g.2.1 0, 8, .inl fS))] ++ pl))) (va_Qi (fun (r : Int32) (u : (Int32 × Nat × Nat × Nat × (Nat → Int32)) × va_W) => (u.1.2.1 ≤ 16384 ∧ u.1.2.2.1 ≤ 8192 ∧ u.1.2.2.2.1 ≤ 8 ∧ s5 u.1.2.2.2.2) ∧ okx g T [] u.2) (po g.1 vcl (va_A ([(h0, .inr (8, [.int x0, .int (nI tp), .int (nI rs), .int (nI ks), .ref mt, .ref mr_, .ref mk, .ref mo, .ref mh, .ref mse, .ref mhs, .ref msp, .ref msc, .ref mha])), (mse, .inl (g.2.1 0, 8, .inl fS))] ++ pl) sz) (fun (u : (Int32 × Nat × Nat × Nat × (Nat → Int32)) × va_W) => [(h0, .inr (8, [.int u.1.1, .int (nI (u.1.2.1)), .int (nI (u.1.2.2.1)), .int (nI (u.1.2.2.2.1)), .ref mt, .ref mr_, .ref mk, .ref mo, .ref mh, .ref mse, .ref mhs, .ref msp, .ref msc, .ref mha])), (mse, .inl (g.2.1 0, 8, .inl ((u.1.2.2.2.2))))] ++ u.2)) (va_A ([(h0, .inr (8, [.int x0, .int (nI tp), .int (nI rs), .int (nI ks), .ref mt, .ref mr_, .ref mk, .ref mo, .ref mh, .ref mse, .ref mhs, .ref msp, .ref msc, .ref mha])), (mse, .inl (g.2.1 0, 8, .inl fS))] ++ pl) sz)) 0 0 (va_A ([(h0, .inr (8, [.int x0, .int (nI tp), .int (nI rs), .int (nI ks), .ref mt, .ref mr_, .ref mk, .ref mo, .ref mh, .ref mse, .ref mhs, .ref msp, .ref msc, .ref mha])), (mse, .inl (g.2.1 0, 8, .inl fS))] ++ pl) sz) := by
  refine mc_entry (cc := c_M_alter) (maxL := 3) (ret := (some .int)) (by decide) rfl (Nat.le_of_ble_eq_true rfl) ?_
  intro p e s m args below meth c ls F hr hlk hnm hsz hP hD hE hA hl
  obtain ⟨hx, hb, hml, hown, hts⟩ := id F
  have hK := hE.1
  generalize va_A ([(h0, .inr (8, [.int x0, .int (nI tp), .int (nI rs), .int (nI ks), .ref mt, .ref mr_, .ref mk, .ref mo, .ref mh, .ref mse, .ref mhs, .ref msp, .ref msc, .ref mha])), (mse, .inl (g.2.1 0, 8, .inl fS))] ++ pl) sz = A at hD hE hA ⊢
  have hS : va_S A s.heap s.heap [] := va_S.rf
  have hl : lv_has ls 3 [(0, .ref h0), (1, .int v), (2, .int v2)] := hl
  refine lv_aload_n hx hb dM_alter_0 rfl (lv_at hl 0 rfl) ?_
  refine lv_iconst (v := nI 0) hx hb dM_alter_1 (by decide) ?_
  refine va_put (D := g.1) (ci := 8) (v := .int (nI 0)) (ty := .int) (C := "LatticeKeysModel") (T := T_M) (N := 14) hx hb hts (wg_ft i_M) ty_M k_M n_M hown hK hP hD hS 0 rfl rfl 0 (by decide) (hts _ (wg_t kw_1526)) (fun _ h9 => h9) rfl (by decide +kernel) rfl rfl (Nat.le_of_ble_eq_true rfl) dM_alter_2 (fun H locs hP hD hS => ?_)
  have hP : va_P g.1 vcl ([(h0, .inr (8, [.int (nI 0), .int (nI tp), .int (nI rs), .int (nI ks), .ref mt, .ref mr_, .ref mk, .ref mo, .ref mh, .ref mse, .ref mhs, .ref msp, .ref msc, .ref mha])), (mse, .inl (g.2.1 0, 8, .inl fS))] ++ pl) _ := hP
  have hD : va_D _ ([(h0, .inr (8, [.int (nI 0), .int (nI tp), .int (nI rs), .int (nI ks), .ref mt, .ref mr_, .ref mk, .ref mo, .ref mh, .ref mse, .ref mhs, .ref msp, .ref msc, .ref mha])), (mse, .inl (g.2.1 0, 8, .inl fS))] ++ pl) := hD
  refine lv_iload_n hx hb dM_alter_5 rfl (lv_at hl 1 rfl) ?_
  refine lv_if_lt (tgt := 17) hx hb dM_alter_6 (by decide) (fun h21 => ?_) (fun h21 => ?_)
  · refine lv_aload_n hx hb dM_alter_17 rfl (lv_at hl 0 rfl) ?_
    refine lv_iconst (v := nI 1) hx hb dM_alter_18 (by decide) ?_
    refine mp_i (cx := [(h0, .inr (8, [.int (nI 0), .int (nI tp), .int (nI rs), .int (nI ks), .ref mt, .ref mr_, .ref mk, .ref mo, .ref mh, .ref mse, .ref mhs, .ref msp, .ref msc, .ref mha])), (mse, .inl (g.2.1 0, 8, .inl fS))]) (wr := []) hP hD hS hA [0, 1] [] rfl rfl rfl (by decide) (va_runV (As := [.int (nI 1)]) (rest := []) F (t_M_fail l g _ T  pl hO hU  (nI 1) h0 mt mr_ mk mo mh mse mhs msp msc mha tp rs ks (nI 0) fS k_mt k_mr_ k_mk k_mo k_mh k_mhs k_msp k_msc k_mha (by omega) hS5) (cwV 1 hts (wg_app (wg_c kw_1577 (wg_c kw_1579 (wg_c ks_50 (wg_c kw_9 wg_n)))) kw_1580) rfl rfl rfl (by decide +kernel) ⟨by decide, by decide⟩) (pp_V (en_ok g) (q0 := 0) hK hP hD hS hA hE [0, 1] rfl rfl rfl rfl) rfl rfl hl.1 rfl (lv_room (Nat.le_of_ble_eq_true rfl)) dM_alter_19 ⟨by omega, by omega⟩) (fun r21 u21 H locs hu21 hP hD hS => ?_)
    obtain ⟨u22, pl⟩ := u21
    obtain ⟨hq21, hO⟩ := hu21
    obtain ⟨th21, tp21, rs21, ks21, fS21⟩ := u22
    have hP : va_P g.1 vcl ([(h0, .inr (8, [.int th21, .int (nI tp21), .int (nI rs21), .int (nI ks21), .ref mt, .ref mr_, .ref mk, .ref mo, .ref mh, .ref mse, .ref mhs, .ref msp, .ref msc, .ref mha])), (mse, .inl (g.2.1 0, 8, .inl fS21))] ++ pl) _ := hP
    have hD : va_D _ ([(h0, .inr (8, [.int th21, .int (nI tp21), .int (nI rs21), .int (nI ks21), .ref mt, .ref mr_, .ref mk, .ref mo, .ref mh, .ref mse, .ref mhs, .ref msp, .ref msc, .ref mha])), (mse, .inl (g.2.1 0, 8, .inl fS21))] ++ pl) := hD
    obtain ⟨-, -, -, hm24, hm25⟩ := hq21
    obtain ⟨he21, he22, he23, he24, he25⟩ := hm25
    have he21 : th21 = nI 1 := he21
    have he22 : tp21 = tp := he22
    have he23 : rs21 = rs := he23
    have he24 : ks21 = ks := he24
    obtain rfl := he25
    refine W.widen (k := 0) (n := 0) (by omega) (by omega) ?_
    exact mp_iret hx hb hr hlk hP hD hS ((th21, tp21, rs21, ks21, fS21), pl) ⟨⟨(by show tp21 ≤ 16384; omega), (by show rs21 ≤ 8192; omega), (by show ks21 ≤ 8; omega), hm24⟩, hO⟩ [0, 1] rfl rfl rfl (by omega) (by omega) dM_alter_22
  · refine lv_iload_n hx hb dM_alter_9 rfl (lv_at hl 1 rfl) ?_
    refine lv_aload_n hx hb dM_alter_10 rfl (lv_at hl 0 rfl) ?_
    refine va_get (D := g.1) (ci := 8) (C := "LatticeKeysModel") (T := T_M) (N := 14) hx hb hts (wg_ft i_M) hown hK hP 0 rfl rfl 1 (by decide) (hts _ (wg_t kw_1527)) (fun _ h9 => h9) rfl dM_alter_11 ?_
    refine lv_icmp_lt (tgt := 23) hx hb dM_alter_14 (by decide) (fun h22 => ?_) (fun h22 => ?_)
    · obtain ⟨z21, hz21, rfl⟩ := i32_ltc h21 (by omega) h22
      refine lv_aload_n hx hb dM_alter_23 rfl (lv_at hl 0 rfl) ?_
      refine va_get (D := g.1) (ci := 8) (C := "LatticeKeysModel") (T := T_M) (N := 14) hx hb hts (wg_ft i_M) hown hK hP 0 rfl rfl 4 (by decide) (hts _ (wg_t kw_1530)) (fun _ h9 => h9) rfl dM_alter_24 ?_
      refine lv_iload_n hx hb dM_alter_27 rfl (lv_at hl 1 rfl) ?_
      refine lv_dup2_11 hx hb dM_alter_28 rfl rfl ?_
      refine ty_bald hx hb hK hO k_mt (nxg clo_nil k_mt rfl) hP (vp_in_nI (by omega) (by decide)) dM_alter_29 (fun z22 => ?_)
      refine lv_iload_n hx hb dM_alter_30 rfl (lv_at hl 2 rfl) ?_
      refine lv_i2b hx hb dM_alter_31 rfl ?_
      refine mi_any (fun z23 => ?_)
      refine lv_ixor hx hb dM_alter_32 ?_
      refine mi_any (fun z24 => ?_)
      refine lv_i2b hx hb dM_alter_33 rfl ?_
      refine mi_any (fun z25 => ?_)
      refine ty_bast hx hb hK hO k_mt (nxg clo_nil k_mt rfl) hP hD hS (vp_in_nI (by omega) (by decide)) dM_alter_34 (fun pl H locs hO hP hD hS => ?_)
      refine lv_aload_n hx hb dM_alter_35 rfl (lv_at hl 0 rfl) ?_
      refine va_get (D := g.1) (ci := 8) (C := "LatticeKeysModel") (T := T_M) (N := 14) hx hb hts (wg_ft i_M) hown hK hP 0 rfl rfl 4 (by decide) (hts _ (wg_t kw_1530)) (fun _ h9 => h9) rfl dM_alter_36 ?_
      refine lv_iload_n hx hb dM_alter_39 rfl (lv_at hl 1 rfl) ?_
      refine ty_bald hx hb hK hO k_mt (nxg clo_nil k_mt rfl) hP (vp_in_nI (by omega) (by decide)) dM_alter_40 (fun z26 => ?_)
      refine lv_sipush (v := nI 255) hx hb dM_alter_41 (by decide) ?_
      refine mi_iand hx hb 8 dM_alter_44 (by decide) (fun z27 hz22 => ?_)
      have hz22 : z27 < 256 := hz22
      exact mp_iret hx hb hr hlk hP hD hS ((nI 0, tp, rs, ks, fS), pl) ⟨⟨(by show tp ≤ 16384; omega), (by show rs ≤ 8192; omega), (by show ks ≤ 8; omega), hS5⟩, hO⟩ [0, 1] rfl rfl rfl (by omega) (by omega) dM_alter_45
    · refine lv_aload_n hx hb dM_alter_17 rfl (lv_at hl 0 rfl) ?_
      refine lv_iconst (v := nI 1) hx hb dM_alter_18 (by decide) ?_
      refine mp_i (cx := [(h0, .inr (8, [.int (nI 0), .int (nI tp), .int (nI rs), .int (nI ks), .ref mt, .ref mr_, .ref mk, .ref mo, .ref mh, .ref mse, .ref mhs, .ref msp, .ref msc, .ref mha])), (mse, .inl (g.2.1 0, 8, .inl fS))]) (wr := []) hP hD hS hA [0, 1] [] rfl rfl rfl (by decide) (va_runV (As := [.int (nI 1)]) (rest := []) F (t_M_fail l g _ T  pl hO hU  (nI 1) h0 mt mr_ mk mo mh mse mhs msp msc mha tp rs ks (nI 0) fS k_mt k_mr_ k_mk k_mo k_mh k_mhs k_msp k_msc k_mha (by omega) hS5) (cwV 1 hts (wg_app (wg_c kw_1577 (wg_c kw_1579 (wg_c ks_50 (wg_c kw_9 wg_n)))) kw_1580) rfl rfl rfl (by decide +kernel) ⟨by decide, by decide⟩) (pp_V (en_ok g) (q0 := 0) hK hP hD hS hA hE [0, 1] rfl rfl rfl rfl) rfl rfl hl.1 rfl (lv_room (Nat.le_of_ble_eq_true rfl)) dM_alter_19 ⟨by omega, by omega⟩) (fun r22 u23 H locs hu22 hP hD hS => ?_)
      obtain ⟨u24, pl⟩ := u23
      obtain ⟨hq22, hO⟩ := hu22
      obtain ⟨th22, tp22, rs22, ks22, fS22⟩ := u24
      have hP : va_P g.1 vcl ([(h0, .inr (8, [.int th22, .int (nI tp22), .int (nI rs22), .int (nI ks22), .ref mt, .ref mr_, .ref mk, .ref mo, .ref mh, .ref mse, .ref mhs, .ref msp, .ref msc, .ref mha])), (mse, .inl (g.2.1 0, 8, .inl fS22))] ++ pl) _ := hP
      have hD : va_D _ ([(h0, .inr (8, [.int th22, .int (nI tp22), .int (nI rs22), .int (nI ks22), .ref mt, .ref mr_, .ref mk, .ref mo, .ref mh, .ref mse, .ref mhs, .ref msp, .ref msc, .ref mha])), (mse, .inl (g.2.1 0, 8, .inl fS22))] ++ pl) := hD
      obtain ⟨-, -, -, hm29, hm30⟩ := hq22
      obtain ⟨he26, he27, he28, he29, he30⟩ := hm30
      have he26 : th22 = nI 1 := he26
      have he27 : tp22 = tp := he27
      have he28 : rs22 = rs := he28
      have he29 : ks22 = ks := he29
      obtain rfl := he30
      refine W.widen (k := 0) (n := 0) (by omega) (by omega) ?_
      exact mp_iret hx hb hr hlk hP hD hS ((th22, tp22, rs22, ks22, fS22), pl) ⟨⟨(by show tp22 ≤ 16384; omega), (by show rs22 ≤ 8192; omega), (by show ks22 ≤ 8; omega), hm29⟩, hO⟩ [0, 1] rfl rfl rfl (by omega) (by omega) dM_alter_22
set_option maxHeartbeats 4000000 in
set_option maxRecDepth 100000 in
theorem t_M_result (l : Launch) (g : Gd) (sz : Nat) (T : Ty) (pl : va_W) (hO : okx g T [] pl) (hU : uni T) (v : Int32) (h0 mt mr_ mk mo mh mse mhs msp msc mha tp rs ks : Nat) (x0 : Int32) (fS : Nat → Int32) (k_mt : T mt = some (1, 16384)) (k_mr_ : T mr_ = some (1, 8192)) (k_mk : T mk = some (1, 8192)) (k_mo : T mo = some (4, 2592)) (k_mh : T mh = some (4, 4896)) (k_mhs : T mhs = some (5, 4896)) (k_msp : T msp = some (20, 0)) (k_msc : T msc = some (23, 0)) (k_mha : T mha = some (49, 0)) (hb : tp ≤ 16384 ∧ rs ≤ 8192 ∧ ks ≤ 8) (hS5 : s5 fS)  : Met l y_M_result w_M_result ({ frames := 1, cells := 0, slots := 0, locals := 21 } : Room) (va_Pc [.ref h0, .int v] (pr (en g) g.1 vcl sz ([(h0, .inr (8, [.int x0, .int (nI tp), .int (nI rs), .int (nI ks), .ref mt, .ref mr_, .ref mk, .ref mo, .ref mh, .ref mse, .ref mhs, .ref msp, .ref msc, .ref mha])), (mse, .inl (g.2.1 0, 8, .inl fS))] ++ pl))) (va_Qi (fun (r : Int32) (u : (Int32 × Nat × Nat × Nat × (Nat → Int32)) × va_W) => (u.1.2.1 ≤ 16384 ∧ u.1.2.2.1 ≤ 8192 ∧ u.1.2.2.2.1 ≤ 8 ∧ s5 u.1.2.2.2.2) ∧ okx g T [] u.2) (po g.1 vcl (va_A ([(h0, .inr (8, [.int x0, .int (nI tp), .int (nI rs), .int (nI ks), .ref mt, .ref mr_, .ref mk, .ref mo, .ref mh, .ref mse, .ref mhs, .ref msp, .ref msc, .ref mha])), (mse, .inl (g.2.1 0, 8, .inl fS))] ++ pl) sz) (fun (u : (Int32 × Nat × Nat × Nat × (Nat → Int32)) × va_W) => [(h0, .inr (8, [.int u.1.1, .int (nI (u.1.2.1)), .int (nI (u.1.2.2.1)), .int (nI (u.1.2.2.2.1)), .ref mt, .ref mr_, .ref mk, .ref mo, .ref mh, .ref mse, .ref mhs, .ref msp, .ref msc, .ref mha])), (mse, .inl (g.2.1 0, 8, .inl ((u.1.2.2.2.2))))] ++ u.2)) (va_A ([(h0, .inr (8, [.int x0, .int (nI tp), .int (nI rs), .int (nI ks), .ref mt, .ref mr_, .ref mk, .ref mo, .ref mh, .ref mse, .ref mhs, .ref msp, .ref msc, .ref mha])), (mse, .inl (g.2.1 0, 8, .inl fS))] ++ pl) sz)) 0 0 (va_A ([(h0, .inr (8, [.int x0, .int (nI tp), .int (nI rs), .int (nI ks), .ref mt, .ref mr_, .ref mk, .ref mo, .ref mh, .ref mse, .ref mhs, .ref msp, .ref msc, .ref mha])), (mse, .inl (g.2.1 0, 8, .inl fS))] ++ pl) sz) := by
  refine mc_entry (cc := c_M_result) (maxL := 2) (ret := (some .int)) (by decide) rfl (Nat.le_of_ble_eq_true rfl) ?_
  intro p e s m args below meth c ls F hr hlk hnm hsz hP hD hE hA hl
  obtain ⟨hx, hb, hml, hown, hts⟩ := id F
  have hK := hE.1
  generalize va_A ([(h0, .inr (8, [.int x0, .int (nI tp), .int (nI rs), .int (nI ks), .ref mt, .ref mr_, .ref mk, .ref mo, .ref mh, .ref mse, .ref mhs, .ref msp, .ref msc, .ref mha])), (mse, .inl (g.2.1 0, 8, .inl fS))] ++ pl) sz = A at hD hE hA ⊢
  have hS : va_S A s.heap s.heap [] := va_S.rf
  have hl : lv_has ls 2 [(0, .ref h0), (1, .int v)] := hl
  refine lv_aload_n hx hb dM_result_0 rfl (lv_at hl 0 rfl) ?_
  refine lv_iconst (v := nI 0) hx hb dM_result_1 (by decide) ?_
  refine va_put (D := g.1) (ci := 8) (v := .int (nI 0)) (ty := .int) (C := "LatticeKeysModel") (T := T_M) (N := 14) hx hb hts (wg_ft i_M) ty_M k_M n_M hown hK hP hD hS 0 rfl rfl 0 (by decide) (hts _ (wg_t kw_1526)) (fun _ h9 => h9) rfl (by decide +kernel) rfl rfl (Nat.le_of_ble_eq_true rfl) dM_result_2 (fun H locs hP hD hS => ?_)
  have hP : va_P g.1 vcl ([(h0, .inr (8, [.int (nI 0), .int (nI tp), .int (nI rs), .int (nI ks), .ref mt, .ref mr_, .ref mk, .ref mo, .ref mh, .ref mse, .ref mhs, .ref msp, .ref msc, .ref mha])), (mse, .inl (g.2.1 0, 8, .inl fS))] ++ pl) _ := hP
  have hD : va_D _ ([(h0, .inr (8, [.int (nI 0), .int (nI tp), .int (nI rs), .int (nI ks), .ref mt, .ref mr_, .ref mk, .ref mo, .ref mh, .ref mse, .ref mhs, .ref msp, .ref msc, .ref mha])), (mse, .inl (g.2.1 0, 8, .inl fS))] ++ pl) := hD
  refine lv_iload_n hx hb dM_result_5 rfl (lv_at hl 1 rfl) ?_
  refine lv_if_lt (tgt := 17) hx hb dM_result_6 (by decide) (fun h21 => ?_) (fun h21 => ?_)
  · refine lv_aload_n hx hb dM_result_17 rfl (lv_at hl 0 rfl) ?_
    refine lv_iconst (v := nI 1) hx hb dM_result_18 (by decide) ?_
    refine mp_i (cx := [(h0, .inr (8, [.int (nI 0), .int (nI tp), .int (nI rs), .int (nI ks), .ref mt, .ref mr_, .ref mk, .ref mo, .ref mh, .ref mse, .ref mhs, .ref msp, .ref msc, .ref mha])), (mse, .inl (g.2.1 0, 8, .inl fS))]) (wr := []) hP hD hS hA [0, 1] [] rfl rfl rfl (by decide) (va_runV (As := [.int (nI 1)]) (rest := []) F (t_M_fail l g _ T  pl hO hU  (nI 1) h0 mt mr_ mk mo mh mse mhs msp msc mha tp rs ks (nI 0) fS k_mt k_mr_ k_mk k_mo k_mh k_mhs k_msp k_msc k_mha (by omega) hS5) (cwV 1 hts (wg_app (wg_c kw_1577 (wg_c kw_1579 (wg_c ks_50 (wg_c kw_9 wg_n)))) kw_1580) rfl rfl rfl (by decide +kernel) ⟨by decide, by decide⟩) (pp_V (en_ok g) (q0 := 0) hK hP hD hS hA hE [0, 1] rfl rfl rfl rfl) rfl rfl hl.1 rfl (lv_room (Nat.le_of_ble_eq_true rfl)) dM_result_19 ⟨by omega, by omega⟩) (fun r21 u21 H locs hu21 hP hD hS => ?_)
    obtain ⟨u22, pl⟩ := u21
    obtain ⟨hq21, hO⟩ := hu21
    obtain ⟨th21, tp21, rs21, ks21, fS21⟩ := u22
    have hP : va_P g.1 vcl ([(h0, .inr (8, [.int th21, .int (nI tp21), .int (nI rs21), .int (nI ks21), .ref mt, .ref mr_, .ref mk, .ref mo, .ref mh, .ref mse, .ref mhs, .ref msp, .ref msc, .ref mha])), (mse, .inl (g.2.1 0, 8, .inl fS21))] ++ pl) _ := hP
    have hD : va_D _ ([(h0, .inr (8, [.int th21, .int (nI tp21), .int (nI rs21), .int (nI ks21), .ref mt, .ref mr_, .ref mk, .ref mo, .ref mh, .ref mse, .ref mhs, .ref msp, .ref msc, .ref mha])), (mse, .inl (g.2.1 0, 8, .inl fS21))] ++ pl) := hD
    obtain ⟨-, -, -, hm24, hm25⟩ := hq21
    obtain ⟨he21, he22, he23, he24, he25⟩ := hm25
    have he21 : th21 = nI 1 := he21
    have he22 : tp21 = tp := he22
    have he23 : rs21 = rs := he23
    have he24 : ks21 = ks := he24
    obtain rfl := he25
    refine W.widen (k := 0) (n := 0) (by omega) (by omega) ?_
    refine lv_goto (tgt := 35) hx hb dM_result_22 (by decide) ?_
    exact mp_iret hx hb hr hlk hP hD hS ((th21, tp21, rs21, ks21, fS21), pl) ⟨⟨(by show tp21 ≤ 16384; omega), (by show rs21 ≤ 8192; omega), (by show ks21 ≤ 8; omega), hm24⟩, hO⟩ [0, 1] rfl rfl rfl (by omega) (by omega) dM_result_35
  · refine lv_iload_n hx hb dM_result_9 rfl (lv_at hl 1 rfl) ?_
    refine lv_aload_n hx hb dM_result_10 rfl (lv_at hl 0 rfl) ?_
    refine va_get (D := g.1) (ci := 8) (C := "LatticeKeysModel") (T := T_M) (N := 14) hx hb hts (wg_ft i_M) hown hK hP 0 rfl rfl 2 (by decide) (hts _ (wg_t kw_1528)) (fun _ h9 => h9) rfl dM_result_11 ?_
    refine lv_icmp_lt (tgt := 25) hx hb dM_result_14 (by decide) (fun h22 => ?_) (fun h22 => ?_)
    · obtain ⟨z21, hz21, rfl⟩ := i32_ltc h21 (by omega) h22
      refine lv_aload_n hx hb dM_result_25 rfl (lv_at hl 0 rfl) ?_
      refine va_get (D := g.1) (ci := 8) (C := "LatticeKeysModel") (T := T_M) (N := 14) hx hb hts (wg_ft i_M) hown hK hP 0 rfl rfl 5 (by decide) (hts _ (wg_t kw_1531)) (fun _ h9 => h9) rfl dM_result_26 ?_
      refine lv_iload_n hx hb dM_result_29 rfl (lv_at hl 1 rfl) ?_
      refine ty_bald hx hb hK hO k_mr_ (nxg clo_nil k_mr_ rfl) hP (vp_in_nI (by omega) (by decide)) dM_result_30 (fun z22 => ?_)
      refine lv_sipush (v := nI 255) hx hb dM_result_31 (by decide) ?_
      refine mi_iand hx hb 8 dM_result_34 (by decide) (fun z23 hz22 => ?_)
      have hz22 : z23 < 256 := hz22
      exact mp_iret hx hb hr hlk hP hD hS ((nI 0, tp, rs, ks, fS), pl) ⟨⟨(by show tp ≤ 16384; omega), (by show rs ≤ 8192; omega), (by show ks ≤ 8; omega), hS5⟩, hO⟩ [0, 1] rfl rfl rfl (by omega) (by omega) dM_result_35
    · refine lv_aload_n hx hb dM_result_17 rfl (lv_at hl 0 rfl) ?_
      refine lv_iconst (v := nI 1) hx hb dM_result_18 (by decide) ?_
      refine mp_i (cx := [(h0, .inr (8, [.int (nI 0), .int (nI tp), .int (nI rs), .int (nI ks), .ref mt, .ref mr_, .ref mk, .ref mo, .ref mh, .ref mse, .ref mhs, .ref msp, .ref msc, .ref mha])), (mse, .inl (g.2.1 0, 8, .inl fS))]) (wr := []) hP hD hS hA [0, 1] [] rfl rfl rfl (by decide) (va_runV (As := [.int (nI 1)]) (rest := []) F (t_M_fail l g _ T  pl hO hU  (nI 1) h0 mt mr_ mk mo mh mse mhs msp msc mha tp rs ks (nI 0) fS k_mt k_mr_ k_mk k_mo k_mh k_mhs k_msp k_msc k_mha (by omega) hS5) (cwV 1 hts (wg_app (wg_c kw_1577 (wg_c kw_1579 (wg_c ks_50 (wg_c kw_9 wg_n)))) kw_1580) rfl rfl rfl (by decide +kernel) ⟨by decide, by decide⟩) (pp_V (en_ok g) (q0 := 0) hK hP hD hS hA hE [0, 1] rfl rfl rfl rfl) rfl rfl hl.1 rfl (lv_room (Nat.le_of_ble_eq_true rfl)) dM_result_19 ⟨by omega, by omega⟩) (fun r22 u23 H locs hu22 hP hD hS => ?_)
      obtain ⟨u24, pl⟩ := u23
      obtain ⟨hq22, hO⟩ := hu22
      obtain ⟨th22, tp22, rs22, ks22, fS22⟩ := u24
      have hP : va_P g.1 vcl ([(h0, .inr (8, [.int th22, .int (nI tp22), .int (nI rs22), .int (nI ks22), .ref mt, .ref mr_, .ref mk, .ref mo, .ref mh, .ref mse, .ref mhs, .ref msp, .ref msc, .ref mha])), (mse, .inl (g.2.1 0, 8, .inl fS22))] ++ pl) _ := hP
      have hD : va_D _ ([(h0, .inr (8, [.int th22, .int (nI tp22), .int (nI rs22), .int (nI ks22), .ref mt, .ref mr_, .ref mk, .ref mo, .ref mh, .ref mse, .ref mhs, .ref msp, .ref msc, .ref mha])), (mse, .inl (g.2.1 0, 8, .inl fS22))] ++ pl) := hD
      obtain ⟨-, -, -, hm29, hm30⟩ := hq22
      obtain ⟨he26, he27, he28, he29, he30⟩ := hm30
      have he26 : th22 = nI 1 := he26
      have he27 : tp22 = tp := he27
      have he28 : rs22 = rs := he28
      have he29 : ks22 = ks := he29
      obtain rfl := he30
      refine W.widen (k := 0) (n := 0) (by omega) (by omega) ?_
      refine lv_goto (tgt := 35) hx hb dM_result_22 (by decide) ?_
      exact mp_iret hx hb hr hlk hP hD hS ((th22, tp22, rs22, ks22, fS22), pl) ⟨⟨(by show tp22 ≤ 16384; omega), (by show rs22 ≤ 8192; omega), (by show ks22 ≤ 8; omega), hm29⟩, hO⟩ [0, 1] rfl rfl rfl (by omega) (by omega) dM_result_35
set_option maxHeartbeats 4000000 in
set_option maxRecDepth 100000 in
theorem t_M_count (l : Launch) (g : Gd) (sz : Nat) (T : Ty) (pl : va_W) (hO : okx g T [] pl) (hU : uni T) (v : Int32) (h0 mt mr_ mk mo mh mse mhs msp msc mha tp rs ks : Nat) (x0 : Int32) (fS : Nat → Int32) (k_mt : T mt = some (1, 16384)) (k_mr_ : T mr_ = some (1, 8192)) (k_mk : T mk = some (1, 8192)) (k_mo : T mo = some (4, 2592)) (k_mh : T mh = some (4, 4896)) (k_mhs : T mhs = some (5, 4896)) (k_msp : T msp = some (20, 0)) (k_msc : T msc = some (23, 0)) (k_mha : T mha = some (49, 0)) (hb : tp ≤ 16384 ∧ rs ≤ 8192 ∧ ks ≤ 8) (hS5 : s5 fS)  : Met l y_M_count w_M_count ({ frames := 0, cells := 0, slots := 0, locals := 0 } : Room) (va_Pc [.ref h0, .int v] (pr (en g) g.1 vcl sz ([(h0, .inr (8, [.int x0, .int (nI tp), .int (nI rs), .int (nI ks), .ref mt, .ref mr_, .ref mk, .ref mo, .ref mh, .ref mse, .ref mhs, .ref msp, .ref msc, .ref mha])), (mse, .inl (g.2.1 0, 8, .inl fS))] ++ pl))) (va_Qi (fun (r : Int32) (u : (Int32 × Nat × Nat × Nat × (Nat → Int32)) × va_W) => (u.1.2.1 ≤ 16384 ∧ u.1.2.2.1 ≤ 8192 ∧ u.1.2.2.2.1 ≤ 8 ∧ s5 u.1.2.2.2.2) ∧ okx g T [] u.2) (po g.1 vcl (va_A ([(h0, .inr (8, [.int x0, .int (nI tp), .int (nI rs), .int (nI ks), .ref mt, .ref mr_, .ref mk, .ref mo, .ref mh, .ref mse, .ref mhs, .ref msp, .ref msc, .ref mha])), (mse, .inl (g.2.1 0, 8, .inl fS))] ++ pl) sz) (fun (u : (Int32 × Nat × Nat × Nat × (Nat → Int32)) × va_W) => [(h0, .inr (8, [.int u.1.1, .int (nI (u.1.2.1)), .int (nI (u.1.2.2.1)), .int (nI (u.1.2.2.2.1)), .ref mt, .ref mr_, .ref mk, .ref mo, .ref mh, .ref mse, .ref mhs, .ref msp, .ref msc, .ref mha])), (mse, .inl (g.2.1 0, 8, .inl ((u.1.2.2.2.2))))] ++ u.2)) (va_A ([(h0, .inr (8, [.int x0, .int (nI tp), .int (nI rs), .int (nI ks), .ref mt, .ref mr_, .ref mk, .ref mo, .ref mh, .ref mse, .ref mhs, .ref msp, .ref msc, .ref mha])), (mse, .inl (g.2.1 0, 8, .inl fS))] ++ pl) sz)) 0 0 (va_A ([(h0, .inr (8, [.int x0, .int (nI tp), .int (nI rs), .int (nI ks), .ref mt, .ref mr_, .ref mk, .ref mo, .ref mh, .ref mse, .ref mhs, .ref msp, .ref msc, .ref mha])), (mse, .inl (g.2.1 0, 8, .inl fS))] ++ pl) sz) := by
  refine mc_entry (cc := c_M_count) (maxL := 2) (ret := (some .int)) (by decide) rfl (Nat.le_of_ble_eq_true rfl) ?_
  intro p e s m args below meth c ls F hr hlk hnm hsz hP hD hE hA hl
  obtain ⟨hx, hb, hml, hown, hts⟩ := id F
  have hK := hE.1
  generalize va_A ([(h0, .inr (8, [.int x0, .int (nI tp), .int (nI rs), .int (nI ks), .ref mt, .ref mr_, .ref mk, .ref mo, .ref mh, .ref mse, .ref mhs, .ref msp, .ref msc, .ref mha])), (mse, .inl (g.2.1 0, 8, .inl fS))] ++ pl) sz = A at hD hE hA ⊢
  have hS : va_S A s.heap s.heap [] := va_S.rf
  have hl : lv_has ls 2 [(0, .ref h0), (1, .int v)] := hl
  refine lv_aload_n hx hb dM_count_0 rfl (lv_at hl 0 rfl) ?_
  refine lv_iconst (v := nI 0) hx hb dM_count_1 (by decide) ?_
  refine va_put (D := g.1) (ci := 8) (v := .int (nI 0)) (ty := .int) (C := "LatticeKeysModel") (T := T_M) (N := 14) hx hb hts (wg_ft i_M) ty_M k_M n_M hown hK hP hD hS 0 rfl rfl 0 (by decide) (hts _ (wg_t kw_1526)) (fun _ h9 => h9) rfl (by decide +kernel) rfl rfl (Nat.le_of_ble_eq_true rfl) dM_count_2 (fun H locs hP hD hS => ?_)
  have hP : va_P g.1 vcl ([(h0, .inr (8, [.int (nI 0), .int (nI tp), .int (nI rs), .int (nI ks), .ref mt, .ref mr_, .ref mk, .ref mo, .ref mh, .ref mse, .ref mhs, .ref msp, .ref msc, .ref mha])), (mse, .inl (g.2.1 0, 8, .inl fS))] ++ pl) _ := hP
  have hD : va_D _ ([(h0, .inr (8, [.int (nI 0), .int (nI tp), .int (nI rs), .int (nI ks), .ref mt, .ref mr_, .ref mk, .ref mo, .ref mh, .ref mse, .ref mhs, .ref msp, .ref msc, .ref mha])), (mse, .inl (g.2.1 0, 8, .inl fS))] ++ pl) := hD
  refine lv_iload_n hx hb dM_count_5 rfl (lv_at hl 1 rfl) ?_
  refine lv_if_ne (tgt := 16) hx hb dM_count_6 (by decide) (fun h21 => ?_) (fun h21 => ?_)
  · refine lv_iload_n hx hb dM_count_16 rfl (lv_at hl 1 rfl) ?_
    refine lv_iconst (v := nI 1) hx hb dM_count_17 (by decide) ?_
    refine lv_icmp_ne (tgt := 28) hx hb dM_count_18 (by decide) (fun h22 => ?_) (fun h22 => ?_)
    · refine lv_iload_n hx hb dM_count_28 rfl (lv_at hl 1 rfl) ?_
      refine lv_iconst (v := nI 2) hx hb dM_count_29 (by decide) ?_
      refine lv_icmp_ne (tgt := 40) hx hb dM_count_30 (by decide) (fun h23 => ?_) (fun h23 => ?_)
      · refine lv_iconst (v := (-1)) hx hb dM_count_40 (by decide) ?_
        exact mp_iret hx hb hr hlk hP hD hS ((nI 0, tp, rs, ks, fS), pl) ⟨⟨(by show tp ≤ 16384; omega), (by show rs ≤ 8192; omega), (by show ks ≤ 8; omega), hS5⟩, hO⟩ [0, 1] rfl rfl rfl (by omega) (by omega) dM_count_41
      · refine lv_aload_n hx hb dM_count_33 rfl (lv_at hl 0 rfl) ?_
        refine va_get (D := g.1) (ci := 8) (C := "LatticeKeysModel") (T := T_M) (N := 14) hx hb hts (wg_ft i_M) hown hK hP 0 rfl rfl 2 (by decide) (hts _ (wg_t kw_1528)) (fun _ h9 => h9) rfl dM_count_34 ?_
        refine lv_goto (tgt := 41) hx hb dM_count_37 (by decide) ?_
        exact mp_iret hx hb hr hlk hP hD hS ((nI 0, tp, rs, ks, fS), pl) ⟨⟨(by show tp ≤ 16384; omega), (by show rs ≤ 8192; omega), (by show ks ≤ 8; omega), hS5⟩, hO⟩ [0, 1] rfl rfl rfl (by omega) (by omega) dM_count_41
    · refine lv_aload_n hx hb dM_count_21 rfl (lv_at hl 0 rfl) ?_
      refine va_get (D := g.1) (ci := 8) (C := "LatticeKeysModel") (T := T_M) (N := 14) hx hb hts (wg_ft i_M) hown hK hP 0 rfl rfl 3 (by decide) (hts _ (wg_t kw_1529)) (fun _ h9 => h9) rfl dM_count_22 ?_
      refine lv_goto (tgt := 41) hx hb dM_count_25 (by decide) ?_
      exact mp_iret hx hb hr hlk hP hD hS ((nI 0, tp, rs, ks, fS), pl) ⟨⟨(by show tp ≤ 16384; omega), (by show rs ≤ 8192; omega), (by show ks ≤ 8; omega), hS5⟩, hO⟩ [0, 1] rfl rfl rfl (by omega) (by omega) dM_count_41
  · refine lv_aload_n hx hb dM_count_9 rfl (lv_at hl 0 rfl) ?_
    refine va_get (D := g.1) (ci := 8) (C := "LatticeKeysModel") (T := T_M) (N := 14) hx hb hts (wg_ft i_M) hown hK hP 0 rfl rfl 1 (by decide) (hts _ (wg_t kw_1527)) (fun _ h9 => h9) rfl dM_count_10 ?_
    refine lv_goto (tgt := 41) hx hb dM_count_13 (by decide) ?_
    exact mp_iret hx hb hr hlk hP hD hS ((nI 0, tp, rs, ks, fS), pl) ⟨⟨(by show tp ≤ 16384; omega), (by show rs ≤ 8192; omega), (by show ks ≤ 8; omega), hS5⟩, hO⟩ [0, 1] rfl rfl rfl (by omega) (by omega) dM_count_41
