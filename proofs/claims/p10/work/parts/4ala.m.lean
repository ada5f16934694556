set_option linter.all false
abbrev c_M_fail : ByteArray := prog_12_method_5_code
abbrev y_M_fail : MethodName := ⟨"LatticeKeysModel", "fail", "(I)I"⟩
abbrev w_M_fail : List Cond := Cond.code y_M_fail c_M_fail 2 (some .int) :: WG
theorem dM_fail_0 : decode c_M_fail 0 = .ok (.aload_n 0, 1) := by decide +kernel
theorem dM_fail_1 : decode c_M_fail 1 = .ok (.iload_n 1, 1) := by decide +kernel
theorem dM_fail_2 : decode c_M_fail 2 = .ok (.putfield 57, 3) := by decide +kernel
theorem dM_fail_5 : decode c_M_fail 5 = .ok (.iconst 0, 1) := by decide +kernel
theorem dM_fail_6 : decode c_M_fail 6 = .ok (.ireturn, 1) := by decide +kernel
abbrev c_M_four : ByteArray := prog_12_method_8_code
abbrev y_M_four : MethodName := ⟨"LatticeKeysModel", "four", "(I)V"⟩
abbrev w_M_four : List Cond := Cond.code y_M_four c_M_four 3 none :: WG
theorem dM_four_0 : decode c_M_four 0 = .ok (.bipush 24, 2) := by decide +kernel
theorem dM_four_2 : decode c_M_four 2 = .ok (.istore_n 2, 1) := by decide +kernel
theorem dM_four_3 : decode c_M_four 3 = .ok (.iload_n 2, 1) := by decide +kernel
theorem dM_four_4 : decode c_M_four 4 = .ok (.ifCond .lt 32, 3) := by decide +kernel
theorem dM_four_7 : decode c_M_four 7 = .ok (.aload_n 0, 1) := by decide +kernel
theorem dM_four_8 : decode c_M_four 8 = .ok (.getfield 7, 3) := by decide +kernel
theorem dM_four_11 : decode c_M_four 11 = .ok (.aload_n 0, 1) := by decide +kernel
theorem dM_four_12 : decode c_M_four 12 = .ok (.getfield 70, 3) := by decide +kernel
theorem dM_four_15 : decode c_M_four 15 = .ok (.iload_n 1, 1) := by decide +kernel
theorem dM_four_16 : decode c_M_four 16 = .ok (.iload_n 2, 1) := by decide +kernel
theorem dM_four_17 : decode c_M_four 17 = .ok (.ishr, 1) := by decide +kernel
theorem dM_four_18 : decode c_M_four 18 = .ok (.i2b, 1) := by decide +kernel
theorem dM_four_19 : decode c_M_four 19 = .ok (.bastore, 1) := by decide +kernel
theorem dM_four_20 : decode c_M_four 20 = .ok (.aload_n 0, 1) := by decide +kernel
theorem dM_four_21 : decode c_M_four 21 = .ok (.dup, 1) := by decide +kernel
theorem dM_four_22 : decode c_M_four 22 = .ok (.getfield 70, 3) := by decide +kernel
theorem dM_four_25 : decode c_M_four 25 = .ok (.iconst 1, 1) := by decide +kernel
theorem dM_four_26 : decode c_M_four 26 = .ok (.iadd, 1) := by decide +kernel
theorem dM_four_27 : decode c_M_four 27 = .ok (.putfield 70, 3) := by decide +kernel
theorem dM_four_30 : decode c_M_four 30 = .ok (.iinc 2 (-8), 3) := by decide +kernel
theorem dM_four_33 : decode c_M_four 33 = .ok (.goto (-30), 3) := by decide +kernel
theorem dM_four_36 : decode c_M_four 36 = .ok (.return_, 1) := by decide +kernel
abbrev c_M_feed : ByteArray := prog_12_method_9_code
abbrev y_M_feed : MethodName := ⟨"LatticeKeysModel", "feed", "(IIIII)I"⟩
abbrev w_M_feed : List Cond := Cond.code y_M_feed c_M_feed 6 (some .int) :: WG
theorem dM_feed_0 : decode c_M_feed 0 = .ok (.aload_n 0, 1) := by decide +kernel
theorem dM_feed_1 : decode c_M_feed 1 = .ok (.iconst 0, 1) := by decide +kernel
theorem dM_feed_2 : decode c_M_feed 2 = .ok (.putfield 57, 3) := by decide +kernel
theorem dM_feed_5 : decode c_M_feed 5 = .ok (.aload_n 0, 1) := by decide +kernel
theorem dM_feed_6 : decode c_M_feed 6 = .ok (.getfield 70, 3) := by decide +kernel
theorem dM_feed_9 : decode c_M_feed 9 = .ok (.bipush 20, 2) := by decide +kernel
theorem dM_feed_11 : decode c_M_feed 11 = .ok (.iadd, 1) := by decide +kernel
theorem dM_feed_12 : decode c_M_feed 12 = .ok (.sipush 16384, 3) := by decide +kernel
theorem dM_feed_15 : decode c_M_feed 15 = .ok (.if_icmp .le 9, 3) := by decide +kernel
theorem dM_feed_18 : decode c_M_feed 18 = .ok (.aload_n 0, 1) := by decide +kernel
theorem dM_feed_19 : decode c_M_feed 19 = .ok (.iconst 1, 1) := by decide +kernel
theorem dM_feed_20 : decode c_M_feed 20 = .ok (.invokevirtual 73, 3) := by decide +kernel
theorem dM_feed_23 : decode c_M_feed 23 = .ok (.ireturn, 1) := by decide +kernel
theorem dM_feed_24 : decode c_M_feed 24 = .ok (.aload_n 0, 1) := by decide +kernel
theorem dM_feed_25 : decode c_M_feed 25 = .ok (.iload_n 1, 1) := by decide +kernel
theorem dM_feed_26 : decode c_M_feed 26 = .ok (.invokevirtual 76, 3) := by decide +kernel
theorem dM_feed_29 : decode c_M_feed 29 = .ok (.aload_n 0, 1) := by decide +kernel
theorem dM_feed_30 : decode c_M_feed 30 = .ok (.iload_n 2, 1) := by decide +kernel
theorem dM_feed_31 : decode c_M_feed 31 = .ok (.invokevirtual 76, 3) := by decide +kernel
theorem dM_feed_34 : decode c_M_feed 34 = .ok (.aload_n 0, 1) := by decide +kernel
theorem dM_feed_35 : decode c_M_feed 35 = .ok (.iload_n 3, 1) := by decide +kernel
theorem dM_feed_36 : decode c_M_feed 36 = .ok (.invokevirtual 76, 3) := by decide +kernel
theorem dM_feed_39 : decode c_M_feed 39 = .ok (.aload_n 0, 1) := by decide +kernel
theorem dM_feed_40 : decode c_M_feed 40 = .ok (.iload 4, 2) := by decide +kernel
theorem dM_feed_42 : decode c_M_feed 42 = .ok (.invokevirtual 76, 3) := by decide +kernel
theorem dM_feed_45 : decode c_M_feed 45 = .ok (.aload_n 0, 1) := by decide +kernel
theorem dM_feed_46 : decode c_M_feed 46 = .ok (.iload 5, 2) := by decide +kernel
theorem dM_feed_48 : decode c_M_feed 48 = .ok (.invokevirtual 76, 3) := by decide +kernel
theorem dM_feed_51 : decode c_M_feed 51 = .ok (.aload_n 0, 1) := by decide +kernel
theorem dM_feed_52 : decode c_M_feed 52 = .ok (.getfield 70, 3) := by decide +kernel
theorem dM_feed_55 : decode c_M_feed 55 = .ok (.ireturn, 1) := by decide +kernel
abbrev c_M_count : ByteArray := prog_12_method_27_code
abbrev y_M_count : MethodName := ⟨"LatticeKeysModel", "count", "(I)I"⟩
abbrev w_M_count : List Cond := Cond.code y_M_count c_M_count 2 (some .int) :: WG
theorem dM_count_0 : decode c_M_count 0 = .ok (.aload_n 0, 1) := by decide +kernel
theorem dM_count_1 : decode c_M_count 1 = .ok (.iconst 0, 1) := by decide +kernel
theorem dM_count_2 : decode c_M_count 2 = .ok (.putfield 57, 3) := by decide +kernel
theorem dM_count_5 : decode c_M_count 5 = .ok (.iload_n 1, 1) := by decide +kernel
theorem dM_count_6 : decode c_M_count 6 = .ok (.ifCond .ne 10, 3) := by decide +kernel
theorem dM_count_9 : decode c_M_count 9 = .ok (.aload_n 0, 1) := by decide +kernel
theorem dM_count_10 : decode c_M_count 10 = .ok (.getfield 70, 3) := by decide +kernel
theorem dM_count_13 : decode c_M_count 13 = .ok (.goto 28, 3) := by decide +kernel
theorem dM_count_16 : decode c_M_count 16 = .ok (.iload_n 1, 1) := by decide +kernel
theorem dM_count_17 : decode c_M_count 17 = .ok (.iconst 1, 1) := by decide +kernel
theorem dM_count_18 : decode c_M_count 18 = .ok (.if_icmp .ne 10, 3) := by decide +kernel
theorem dM_count_21 : decode c_M_count 21 = .ok (.aload_n 0, 1) := by decide +kernel
theorem dM_count_22 : decode c_M_count 22 = .ok (.getfield 83, 3) := by decide +kernel
theorem dM_count_25 : decode c_M_count 25 = .ok (.goto 16, 3) := by decide +kernel
theorem dM_count_28 : decode c_M_count 28 = .ok (.iload_n 1, 1) := by decide +kernel
theorem dM_count_29 : decode c_M_count 29 = .ok (.iconst 2, 1) := by decide +kernel
theorem dM_count_30 : decode c_M_count 30 = .ok (.if_icmp .ne 10, 3) := by decide +kernel
theorem dM_count_33 : decode c_M_count 33 = .ok (.aload_n 0, 1) := by decide +kernel
theorem dM_count_34 : decode c_M_count 34 = .ok (.getfield 80, 3) := by decide +kernel
theorem dM_count_37 : decode c_M_count 37 = .ok (.goto 4, 3) := by decide +kernel
theorem dM_count_40 : decode c_M_count 40 = .ok (.iconst (-1), 1) := by decide +kernel
theorem dM_count_41 : decode c_M_count 41 = .ok (.ireturn, 1) := by decide +kernel
abbrev c_M_again : ByteArray := prog_12_method_11_code
abbrev y_M_again : MethodName := ⟨"LatticeKeysModel", "again", "()I"⟩
abbrev w_M_again : List Cond := Cond.code y_M_again c_M_again 2 (some .int) :: WG
theorem dM_again_0 : decode c_M_again 0 = .ok (.aload_n 0, 1) := by decide +kernel
theorem dM_again_1 : decode c_M_again 1 = .ok (.iconst 0, 1) := by decide +kernel
theorem dM_again_2 : decode c_M_again 2 = .ok (.putfield 57, 3) := by decide +kernel
theorem dM_again_5 : decode c_M_again 5 = .ok (.aload_n 0, 1) := by decide +kernel
theorem dM_again_6 : decode c_M_again 6 = .ok (.getfield 70, 3) := by decide +kernel
theorem dM_again_9 : decode c_M_again 9 = .ok (.aload_n 0, 1) := by decide +kernel
theorem dM_again_10 : decode c_M_again 10 = .ok (.getfield 80, 3) := by decide +kernel
theorem dM_again_13 : decode c_M_again 13 = .ok (.iadd, 1) := by decide +kernel
theorem dM_again_14 : decode c_M_again 14 = .ok (.sipush 16384, 3) := by decide +kernel
theorem dM_again_17 : decode c_M_again 17 = .ok (.if_icmp .le 9, 3) := by decide +kernel
theorem dM_again_20 : decode c_M_again 20 = .ok (.aload_n 0, 1) := by decide +kernel
theorem dM_again_21 : decode c_M_again 21 = .ok (.iconst 1, 1) := by decide +kernel
theorem dM_again_22 : decode c_M_again 22 = .ok (.invokevirtual 73, 3) := by decide +kernel
theorem dM_again_25 : decode c_M_again 25 = .ok (.ireturn, 1) := by decide +kernel
theorem dM_again_26 : decode c_M_again 26 = .ok (.iconst 0, 1) := by decide +kernel
theorem dM_again_27 : decode c_M_again 27 = .ok (.istore_n 1, 1) := by decide +kernel
theorem dM_again_28 : decode c_M_again 28 = .ok (.iload_n 1, 1) := by decide +kernel
theorem dM_again_29 : decode c_M_again 29 = .ok (.aload_n 0, 1) := by decide +kernel
theorem dM_again_30 : decode c_M_again 30 = .ok (.getfield 80, 3) := by decide +kernel
theorem dM_again_33 : decode c_M_again 33 = .ok (.if_icmp .ge 26, 3) := by decide +kernel
theorem dM_again_36 : decode c_M_again 36 = .ok (.aload_n 0, 1) := by decide +kernel
theorem dM_again_37 : decode c_M_again 37 = .ok (.getfield 7, 3) := by decide +kernel
theorem dM_again_40 : decode c_M_again 40 = .ok (.aload_n 0, 1) := by decide +kernel
theorem dM_again_41 : decode c_M_again 41 = .ok (.getfield 70, 3) := by decide +kernel
theorem dM_again_44 : decode c_M_again 44 = .ok (.iload_n 1, 1) := by decide +kernel
theorem dM_again_45 : decode c_M_again 45 = .ok (.iadd, 1) := by decide +kernel
theorem dM_again_46 : decode c_M_again 46 = .ok (.aload_n 0, 1) := by decide +kernel
theorem dM_again_47 : decode c_M_again 47 = .ok (.getfield 13, 3) := by decide +kernel
theorem dM_again_50 : decode c_M_again 50 = .ok (.iload_n 1, 1) := by decide +kernel
theorem dM_again_51 : decode c_M_again 51 = .ok (.baload, 1) := by decide +kernel
theorem dM_again_52 : decode c_M_again 52 = .ok (.bastore, 1) := by decide +kernel
theorem dM_again_53 : decode c_M_again 53 = .ok (.iinc 1 1, 3) := by decide +kernel
theorem dM_again_56 : decode c_M_again 56 = .ok (.goto (-28), 3) := by decide +kernel
theorem dM_again_59 : decode c_M_again 59 = .ok (.aload_n 0, 1) := by decide +kernel
theorem dM_again_60 : decode c_M_again 60 = .ok (.dup, 1) := by decide +kernel
theorem dM_again_61 : decode c_M_again 61 = .ok (.getfield 70, 3) := by decide +kernel
theorem dM_again_64 : decode c_M_again 64 = .ok (.aload_n 0, 1) := by decide +kernel
theorem dM_again_65 : decode c_M_again 65 = .ok (.getfield 80, 3) := by decide +kernel
theorem dM_again_68 : decode c_M_again 68 = .ok (.iadd, 1) := by decide +kernel
theorem dM_again_69 : decode c_M_again 69 = .ok (.putfield 70, 3) := by decide +kernel
theorem dM_again_72 : decode c_M_again 72 = .ok (.aload_n 0, 1) := by decide +kernel
theorem dM_again_73 : decode c_M_again 73 = .ok (.getfield 70, 3) := by decide +kernel
theorem dM_again_76 : decode c_M_again 76 = .ok (.ireturn, 1) := by decide +kernel
abbrev c_M_end : ByteArray := prog_12_method_10_code
abbrev y_M_end : MethodName := ⟨"LatticeKeysModel", "end", "(I)I"⟩
abbrev w_M_end : List Cond := Cond.code y_M_end c_M_end 2 (some .int) :: WG
theorem dM_end_0 : decode c_M_end 0 = .ok (.aload_n 0, 1) := by decide +kernel
theorem dM_end_1 : decode c_M_end 1 = .ok (.iconst 0, 1) := by decide +kernel
theorem dM_end_2 : decode c_M_end 2 = .ok (.putfield 57, 3) := by decide +kernel
theorem dM_end_5 : decode c_M_end 5 = .ok (.iload_n 1, 1) := by decide +kernel
theorem dM_end_6 : decode c_M_end 6 = .ok (.ifCond .lt 11, 3) := by decide +kernel
theorem dM_end_9 : decode c_M_end 9 = .ok (.iload_n 1, 1) := by decide +kernel
theorem dM_end_10 : decode c_M_end 10 = .ok (.aload_n 0, 1) := by decide +kernel
theorem dM_end_11 : decode c_M_end 11 = .ok (.getfield 70, 3) := by decide +kernel
theorem dM_end_14 : decode c_M_end 14 = .ok (.if_icmp .le 9, 3) := by decide +kernel
theorem dM_end_17 : decode c_M_end 17 = .ok (.aload_n 0, 1) := by decide +kernel
theorem dM_end_18 : decode c_M_end 18 = .ok (.iconst 1, 1) := by decide +kernel
theorem dM_end_19 : decode c_M_end 19 = .ok (.invokevirtual 73, 3) := by decide +kernel
theorem dM_end_22 : decode c_M_end 22 = .ok (.ireturn, 1) := by decide +kernel
theorem dM_end_23 : decode c_M_end 23 = .ok (.aload_n 0, 1) := by decide +kernel
theorem dM_end_24 : decode c_M_end 24 = .ok (.iload_n 1, 1) := by decide +kernel
theorem dM_end_25 : decode c_M_end 25 = .ok (.putfield 70, 3) := by decide +kernel
theorem dM_end_28 : decode c_M_end 28 = .ok (.iload_n 1, 1) := by decide +kernel
theorem dM_end_29 : decode c_M_end 29 = .ok (.ireturn, 1) := by decide +kernel
abbrev c_M_alter : ByteArray := prog_12_method_12_code
abbrev y_M_alter : MethodName := ⟨"LatticeKeysModel", "alter", "(II)I"⟩
abbrev w_M_alter : List Cond := Cond.code y_M_alter c_M_alter 3 (some .int) :: WG
theorem dM_alter_0 : decode c_M_alter 0 = .ok (.aload_n 0, 1) := by decide +kernel
theorem dM_alter_1 : decode c_M_alter 1 = .ok (.iconst 0, 1) := by decide +kernel
theorem dM_alter_2 : decode c_M_alter 2 = .ok (.putfield 57, 3) := by decide +kernel
theorem dM_alter_5 : decode c_M_alter 5 = .ok (.iload_n 1, 1) := by decide +kernel
theorem dM_alter_6 : decode c_M_alter 6 = .ok (.ifCond .lt 11, 3) := by decide +kernel
theorem dM_alter_9 : decode c_M_alter 9 = .ok (.iload_n 1, 1) := by decide +kernel
theorem dM_alter_10 : decode c_M_alter 10 = .ok (.aload_n 0, 1) := by decide +kernel
theorem dM_alter_11 : decode c_M_alter 11 = .ok (.getfield 70, 3) := by decide +kernel
theorem dM_alter_14 : decode c_M_alter 14 = .ok (.if_icmp .lt 9, 3) := by decide +kernel
theorem dM_alter_17 : decode c_M_alter 17 = .ok (.aload_n 0, 1) := by decide +kernel
theorem dM_alter_18 : decode c_M_alter 18 = .ok (.iconst 1, 1) := by decide +kernel
theorem dM_alter_19 : decode c_M_alter 19 = .ok (.invokevirtual 73, 3) := by decide +kernel
theorem dM_alter_22 : decode c_M_alter 22 = .ok (.ireturn, 1) := by decide +kernel
theorem dM_alter_23 : decode c_M_alter 23 = .ok (.aload_n 0, 1) := by decide +kernel
theorem dM_alter_24 : decode c_M_alter 24 = .ok (.getfield 7, 3) := by decide +kernel
theorem dM_alter_27 : decode c_M_alter 27 = .ok (.iload_n 1, 1) := by decide +kernel
theorem dM_alter_28 : decode c_M_alter 28 = .ok (.dup2, 1) := by decide +kernel
theorem dM_alter_29 : decode c_M_alter 29 = .ok (.baload, 1) := by decide +kernel
theorem dM_alter_30 : decode c_M_alter 30 = .ok (.iload_n 2, 1) := by decide +kernel
theorem dM_alter_31 : decode c_M_alter 31 = .ok (.i2b, 1) := by decide +kernel
theorem dM_alter_32 : decode c_M_alter 32 = .ok (.ixor, 1) := by decide +kernel
theorem dM_alter_33 : decode c_M_alter 33 = .ok (.i2b, 1) := by decide +kernel
theorem dM_alter_34 : decode c_M_alter 34 = .ok (.bastore, 1) := by decide +kernel
theorem dM_alter_35 : decode c_M_alter 35 = .ok (.aload_n 0, 1) := by decide +kernel
theorem dM_alter_36 : decode c_M_alter 36 = .ok (.getfield 7, 3) := by decide +kernel
theorem dM_alter_39 : decode c_M_alter 39 = .ok (.iload_n 1, 1) := by decide +kernel
theorem dM_alter_40 : decode c_M_alter 40 = .ok (.baload, 1) := by decide +kernel
theorem dM_alter_41 : decode c_M_alter 41 = .ok (.sipush 255, 3) := by decide +kernel
theorem dM_alter_44 : decode c_M_alter 44 = .ok (.iand, 1) := by decide +kernel
theorem dM_alter_45 : decode c_M_alter 45 = .ok (.ireturn, 1) := by decide +kernel
abbrev c_M_result : ByteArray := prog_12_method_26_code
abbrev y_M_result : MethodName := ⟨"LatticeKeysModel", "result", "(I)I"⟩
abbrev w_M_result : List Cond := Cond.code y_M_result c_M_result 2 (some .int) :: WG
theorem dM_result_0 : decode c_M_result 0 = .ok (.aload_n 0, 1) := by decide +kernel
theorem dM_result_1 : decode c_M_result 1 = .ok (.iconst 0, 1) := by decide +kernel
theorem dM_result_2 : decode c_M_result 2 = .ok (.putfield 57, 3) := by decide +kernel
theorem dM_result_5 : decode c_M_result 5 = .ok (.iload_n 1, 1) := by decide +kernel
theorem dM_result_6 : decode c_M_result 6 = .ok (.ifCond .lt 11, 3) := by decide +kernel
theorem dM_result_9 : decode c_M_result 9 = .ok (.iload_n 1, 1) := by decide +kernel
theorem dM_result_10 : decode c_M_result 10 = .ok (.aload_n 0, 1) := by decide +kernel
theorem dM_result_11 : decode c_M_result 11 = .ok (.getfield 80, 3) := by decide +kernel
theorem dM_result_14 : decode c_M_result 14 = .ok (.if_icmp .lt 11, 3) := by decide +kernel
theorem dM_result_17 : decode c_M_result 17 = .ok (.aload_n 0, 1) := by decide +kernel
theorem dM_result_18 : decode c_M_result 18 = .ok (.iconst 1, 1) := by decide +kernel
theorem dM_result_19 : decode c_M_result 19 = .ok (.invokevirtual 73, 3) := by decide +kernel
theorem dM_result_22 : decode c_M_result 22 = .ok (.goto 13, 3) := by decide +kernel
theorem dM_result_25 : decode c_M_result 25 = .ok (.aload_n 0, 1) := by decide +kernel
theorem dM_result_26 : decode c_M_result 26 = .ok (.getfield 13, 3) := by decide +kernel
theorem dM_result_29 : decode c_M_result 29 = .ok (.iload_n 1, 1) := by decide +kernel
theorem dM_result_30 : decode c_M_result 30 = .ok (.baload, 1) := by decide +kernel
theorem dM_result_31 : decode c_M_result 31 = .ok (.sipush 255, 3) := by decide +kernel
theorem dM_result_34 : decode c_M_result 34 = .ok (.iand, 1) := by decide +kernel
theorem dM_result_35 : decode c_M_result 35 = .ok (.ireturn, 1) := by decide +kernel
def M_M_fail (k : Nat) : Prop := k = 148 ∨ (0 : Nat) = 1
noncomputable def F_M_fail (cd : Int32) (s : Sto) : Int32 × Sto := bnd (sI s 148 0 cd) fun s21 => (nI 0, s21)
set_option maxHeartbeats 8000000 in
set_option maxRecDepth 100000 in
theorem N_M_fail (l : Launch) (g : Gd) (sz : Nat) (T : TyN) (s : Sto) (pl : va_W) (hO : okn g T s pl) (hU : inj T) (h0 : Nat) (cd : Int32) (tp : Nat) (rs : Nat) (ks : Nat) (k_h0 : T h0 = some 148) (e_tp : s.1 148 1 = nI tp) (e_rs : s.1 148 2 = nI rs) (e_ks : s.1 148 3 = nI ks)  : Met l y_M_fail w_M_fail ({ frames := 0, cells := 0, slots := 0, locals := 0 } : Room) (va_Pc [.ref h0, .int cd] (pr (en g) g.1 vcl sz ([] ++ pl))) (va_Qi (fun (r : Int32) (u : (Int32 × Sto) × va_W) => (u.1 = F_M_fail cd s ∧ r = u.1.1 ∧ frm (M_M_fail) s u.1.2 ∧ (∃ x : Nat, u.1.2.1 148 1 = nI x ∧ x = tp) ∧ (∃ x : Nat, u.1.2.1 148 2 = nI x ∧ x = rs) ∧ (∃ x : Nat, u.1.2.1 148 3 = nI x ∧ x = ks) ∧ True) ∧ okn g T u.1.2 u.2) (po g.1 vcl (va_A ([] ++ pl) sz) (fun (u : (Int32 × Sto) × va_W) => [] ++ u.2)) (va_A ([] ++ pl) sz)) 0 0 (va_A ([] ++ pl) sz) := by
  refine mc_entry (cc := c_M_fail) (maxL := 2) (ret := (some .int)) (by decide) rfl (Nat.le_of_ble_eq_true rfl) ?_
  intro p e s0 m args below meth c ls F hr hlk hnm hsz hP hD hE hA hl
  obtain ⟨hx, hb, hml, hown, hts⟩ := id F
  have hK := hE.1
  generalize va_A ([] ++ pl) sz = A at hD hE hA ⊢
  have hS : va_S A s0.heap s0.heap [] := va_S.rf
  have hl : lv_has ls 2 [(0, .ref h0), (1, .int cd)] := hl
  have hR : F_M_fail cd s = F_M_fail cd s := rfl
  have hF : frm (M_M_fail) s s := frm_rf
  refine lv_aload_n hx hb dM_fail_0 rfl (lv_at hl 0 rfl) ?_
  refine lv_iload_n hx hb dM_fail_1 rfl (lv_at hl 1 rfl) ?_
  refine nw_put (C := "LatticeKeysModel") (TT := T_M) (N := 14) hx hb hts (wg_ft i_M) ty_M k_M n_M hown hK hO hU k_h0 (kn := 148) (ci := 8) (fl := [(0, 0), (0, 0), (0, 0), (0, 0), (3, 149), (3, 150), (3, 151), (3, 152), (3, 161), (3, 170), (3, 171), (3, 172), (3, 184), (3, 225)]) rfl hP hD hS rfl 0 (by decide) (hts _ (wg_t kw_1526)) (fun _ h9 => h9) rfl (by decide +kernel) rfl dM_fail_2 (fun s21 pl H locs es21 hO hP hD hS => ?_)
  replace hR := bnd_step hR es21
  have hF := frm_sI hF es21 (by unfold M_M_fail; omega)
  have hf21 : s21.1 148 1 = nI tp := fc_ne e_tp es21 (by omega)
  have hf22 : s21.1 148 2 = nI rs := fc_ne e_rs es21 (by omega)
  have hf23 : s21.1 148 3 = nI ks := fc_ne e_ks es21 (by omega)
  refine lv_iconst (v := nI 0) hx hb dM_fail_5 (by decide) ?_
  exact mp_iret hx hb hr hlk hP hD hS ((nI 0, s21), pl) ⟨⟨hR.symm, rfl, hF, ⟨tp, hf21, by omega⟩, ⟨rs, hf22, by omega⟩, ⟨ks, hf23, by omega⟩, trivial⟩, hO⟩ [] rfl rfl rfl (by omega) (by omega) dM_fail_6
def M_M_four (k : Nat) : Prop := k = 148 ∨ k = 149 ∨ (0 : Nat) = 1
noncomputable def F_M_four (v : Int32) (s : Sto) : Sto := bnd ((s.1 148 1).toNatClampNeg) fun z21 => bnd (sB s 149 z21 ((v >>> ((nI 24) &&& 31)).toInt8.toInt32)) fun s21 => bnd ((s21.1 148 1).toNatClampNeg) fun z22 => bnd (sI s21 148 1 (nI (z22 + 1))) fun s22 => bnd ((s22.1 148 1).toNatClampNeg) fun z23 => bnd (sB s22 149 z23 ((v >>> ((nI 16) &&& 31)).toInt8.toInt32)) fun s23 => bnd ((s23.1 148 1).toNatClampNeg) fun z24 => bnd (sI s23 148 1 (nI (z24 + 1))) fun s24 => bnd ((s24.1 148 1).toNatClampNeg) fun z25 => bnd (sB s24 149 z25 ((v >>> ((nI 8) &&& 31)).toInt8.toInt32)) fun s25 => bnd ((s25.1 148 1).toNatClampNeg) fun z26 => bnd (sI s25 148 1 (nI (z26 + 1))) fun s26 => bnd ((s26.1 148 1).toNatClampNeg) fun z27 => bnd (sB s26 149 z27 ((v >>> ((nI 0) &&& 31)).toInt8.toInt32)) fun s27 => bnd ((s27.1 148 1).toNatClampNeg) fun z28 => bnd (sI s27 148 1 (nI (z28 + 1))) fun s28 => s28
set_option maxHeartbeats 8000000 in
set_option maxRecDepth 100000 in
theorem N_M_four (l : Launch) (g : Gd) (sz : Nat) (T : TyN) (s : Sto) (pl : va_W) (hO : okn g T s pl) (hU : inj T) (h0 : Nat) (v : Int32) (tp : Nat) (rs : Nat) (ks : Nat) (k_h0 : T h0 = some 148) (e_tp : s.1 148 1 = nI tp) (e_rs : s.1 148 2 = nI rs) (e_ks : s.1 148 3 = nI ks) (h1 : tp + 4 ≤ 16384)  : Met l y_M_four w_M_four ({ frames := 0, cells := 0, slots := 0, locals := 0 } : Room) (va_Pc [.ref h0, .int v] (pr (en g) g.1 vcl sz ([] ++ pl))) (va_Qv (fun (u : (Sto) × va_W) => (u.1 = F_M_four v s ∧ frm (M_M_four) s u.1 ∧ (∃ x : Nat, u.1.1 148 1 = nI x ∧ x = tp + 4) ∧ (∃ x : Nat, u.1.1 148 2 = nI x ∧ x = rs) ∧ (∃ x : Nat, u.1.1 148 3 = nI x ∧ x = ks) ∧ True) ∧ okn g T u.1 u.2) (po g.1 vcl (va_A ([] ++ pl) sz) (fun (u : (Sto) × va_W) => [] ++ u.2)) (va_A ([] ++ pl) sz)) 0 0 (va_A ([] ++ pl) sz) := by
  refine mc_entry (cc := c_M_four) (maxL := 3) (ret := none) (by decide) rfl (Nat.le_of_ble_eq_true rfl) ?_
  intro p e s0 m args below meth c ls F hr hlk hnm hsz hP hD hE hA hl
  obtain ⟨hx, hb, hml, hown, hts⟩ := id F
  have hK := hE.1
  generalize va_A ([] ++ pl) sz = A at hD hE hA ⊢
  have hS : va_S A s0.heap s0.heap [] := va_S.rf
  have hl : lv_has ls 3 [(0, .ref h0), (1, .int v)] := hl
  have hR : F_M_four v s = F_M_four v s := rfl
  have hF : frm (M_M_four) s s := frm_rf
  refine lv_bipush (v := nI 24) hx hb dM_four_0 (by decide) ?_
  refine lv_istore_n (lv' := [(2, .int (nI 24)), (0, .ref h0), (1, .int v)]) hx hb dM_four_2 rfl hl (by decide) rfl (fun ls hl => ?_)
  refine lv_iload_n hx hb dM_four_3 rfl (lv_at hl 0 rfl) ?_
  refine lv_if_lt (tgt := 36) hx hb dM_four_4 (by decide) (fun h21 => absurd h21 (by decide)) (fun h21 => ?_)
  refine lv_aload_n hx hb dM_four_7 rfl (lv_at hl 1 rfl) ?_
  refine nw_get (C := "LatticeKeysModel") (TT := T_M) (N := 14) hx hb hts (wg_ft i_M) hown hK hO k_h0 (kn := 148) (ci := 8) (fl := [(0, 0), (0, 0), (0, 0), (0, 0), (3, 149), (3, 150), (3, 151), (3, 152), (3, 161), (3, 170), (3, 171), (3, 172), (3, 184), (3, 225)]) rfl hP rfl 4 (by decide) (hts _ (wg_t kw_1530)) (fun _ h9 => h9) (cd := (3, 149)) rfl dM_four_8 (fun v21 hv21 => ?_)
  obtain ⟨r21, rfl, kr21⟩ := (show ∃ r : Nat, v21 = .ref r ∧ T r = some 149 from hv21)
  refine lv_aload_n hx hb dM_four_11 rfl (lv_at hl 1 rfl) ?_
  refine nw_get (C := "LatticeKeysModel") (TT := T_M) (N := 14) hx hb hts (wg_ft i_M) hown hK hO k_h0 (kn := 148) (ci := 8) (fl := [(0, 0), (0, 0), (0, 0), (0, 0), (3, 149), (3, 150), (3, 151), (3, 152), (3, 161), (3, 170), (3, 171), (3, 172), (3, 184), (3, 225)]) rfl hP rfl 1 (by decide) (hts _ (wg_t kw_1527)) (fun _ h9 => h9) (cd := (0, 0)) rfl dM_four_12 (fun v22 hv22 => ?_)
  obtain rfl := (show v22 = .int (s.1 148 1) from hv22)
  obtain ⟨z21, ez21, hz21, hz22⟩ := cl_of (b := 2147483648) e_tp (by omega) (by decide)
  replace hR := bnd_step hR ez21
  refine mi_as hz21 ?_
  refine lv_iload_n hx hb dM_four_15 rfl (lv_at hl 2 rfl) ?_
  refine lv_iload_n hx hb dM_four_16 rfl (lv_at hl 0 rfl) ?_
  refine lv_ishr hx hb dM_four_17 ?_
  refine lv_i2b hx hb dM_four_18 rfl ?_
  refine nw_bast hx hb hK hO hU kr21 (k := 149) rfl hP hD hS (by omega) (by omega) dM_four_19 (fun s21 pl H locs es21 hO hP hD hS => ?_)
  replace hR := bnd_step hR es21
  have hF := frm_sB hF es21 (by unfold M_M_four; omega)
  have hf21 : s21.1 148 1 = nI tp := fc_B e_tp es21 (by omega)
  have hf22 : s21.1 148 2 = nI rs := fc_B e_rs es21 (by omega)
  have hf23 : s21.1 148 3 = nI ks := fc_B e_ks es21 (by omega)
  refine lv_aload_n hx hb dM_four_20 rfl (lv_at hl 1 rfl) ?_
  refine lv_dup hx hb dM_four_21 rfl ?_
  refine nw_get (C := "LatticeKeysModel") (TT := T_M) (N := 14) hx hb hts (wg_ft i_M) hown hK hO k_h0 (kn := 148) (ci := 8) (fl := [(0, 0), (0, 0), (0, 0), (0, 0), (3, 149), (3, 150), (3, 151), (3, 152), (3, 161), (3, 170), (3, 171), (3, 172), (3, 184), (3, 225)]) rfl hP rfl 1 (by decide) (hts _ (wg_t kw_1527)) (fun _ h9 => h9) (cd := (0, 0)) rfl dM_four_22 (fun v23 hv23 => ?_)
  obtain rfl := (show v23 = .int (s21.1 148 1) from hv23)
  obtain ⟨z22, ez22, hz23, hz24⟩ := cl_of (b := 2147483648) hf21 (by omega) (by decide)
  replace hR := bnd_step hR ez22
  refine mi_as hz23 ?_
  refine lv_iconst (v := nI 1) hx hb dM_four_25 (by decide) ?_
  refine mi_iadd hx hb dM_four_26 ?_
  refine nw_put (C := "LatticeKeysModel") (TT := T_M) (N := 14) hx hb hts (wg_ft i_M) ty_M k_M n_M hown hK hO hU k_h0 (kn := 148) (ci := 8) (fl := [(0, 0), (0, 0), (0, 0), (0, 0), (3, 149), (3, 150), (3, 151), (3, 152), (3, 161), (3, 170), (3, 171), (3, 172), (3, 184), (3, 225)]) rfl hP hD hS rfl 1 (by decide) (hts _ (wg_t kw_1527)) (fun _ h9 => h9) rfl (by decide +kernel) rfl dM_four_27 (fun s22 pl H locs es22 hO hP hD hS => ?_)
  replace hR := bnd_step hR es22
  have hF := frm_sI hF es22 (by unfold M_M_four; omega)
  have hf25 : s22.1 148 2 = nI rs := fc_ne hf22 es22 (by omega)
  have hf26 : s22.1 148 3 = nI ks := fc_ne hf23 es22 (by omega)
  have hf27 : s22.1 148 1 = nI (z22 + 1) := fc_eq es22
  refine lv_iinc (k := 0) (v := nI 16) (lv' := [(2, .int (nI 16)), (0, .ref h0), (1, .int v)]) hx hb dM_four_30 hl rfl (by decide) (by decide) rfl (fun ls hl => ?_)
  refine lv_goto (tgt := 3) hx hb dM_four_33 (by decide) ?_
  refine lv_iload_n hx hb dM_four_3 rfl (lv_at hl 0 rfl) ?_
  refine lv_if_lt (tgt := 36) hx hb dM_four_4 (by decide) (fun h22 => absurd h22 (by decide)) (fun h22 => ?_)
  refine lv_aload_n hx hb dM_four_7 rfl (lv_at hl 1 rfl) ?_
  refine nw_get (C := "LatticeKeysModel") (TT := T_M) (N := 14) hx hb hts (wg_ft i_M) hown hK hO k_h0 (kn := 148) (ci := 8) (fl := [(0, 0), (0, 0), (0, 0), (0, 0), (3, 149), (3, 150), (3, 151), (3, 152), (3, 161), (3, 170), (3, 171), (3, 172), (3, 184), (3, 225)]) rfl hP rfl 4 (by decide) (hts _ (wg_t kw_1530)) (fun _ h9 => h9) (cd := (3, 149)) rfl dM_four_8 (fun v24 hv24 => ?_)
  obtain ⟨r22, rfl, kr22⟩ := (show ∃ r : Nat, v24 = .ref r ∧ T r = some 149 from hv24)
  refine lv_aload_n hx hb dM_four_11 rfl (lv_at hl 1 rfl) ?_
  refine nw_get (C := "LatticeKeysModel") (TT := T_M) (N := 14) hx hb hts (wg_ft i_M) hown hK hO k_h0 (kn := 148) (ci := 8) (fl := [(0, 0), (0, 0), (0, 0), (0, 0), (3, 149), (3, 150), (3, 151), (3, 152), (3, 161), (3, 170), (3, 171), (3, 172), (3, 184), (3, 225)]) rfl hP rfl 1 (by decide) (hts _ (wg_t kw_1527)) (fun _ h9 => h9) (cd := (0, 0)) rfl dM_four_12 (fun v25 hv25 => ?_)
  obtain rfl := (show v25 = .int (s22.1 148 1) from hv25)
  obtain ⟨z23, ez23, hz25, hz26⟩ := cl_of (b := 2147483648) hf27 (by omega) (by decide)
  replace hR := bnd_step hR ez23
  refine mi_as hz25 ?_
  refine lv_iload_n hx hb dM_four_15 rfl (lv_at hl 2 rfl) ?_
  refine lv_iload_n hx hb dM_four_16 rfl (lv_at hl 0 rfl) ?_
  refine lv_ishr hx hb dM_four_17 ?_
  refine lv_i2b hx hb dM_four_18 rfl ?_
  refine nw_bast hx hb hK hO hU kr22 (k := 149) rfl hP hD hS (by omega) (by omega) dM_four_19 (fun s23 pl H locs es23 hO hP hD hS => ?_)
  replace hR := bnd_step hR es23
  have hF := frm_sB hF es23 (by unfold M_M_four; omega)
  have hf28 : s23.1 148 2 = nI rs := fc_B hf25 es23 (by omega)
  have hf29 : s23.1 148 3 = nI ks := fc_B hf26 es23 (by omega)
  have hf30 : s23.1 148 1 = nI (z22 + 1) := fc_B hf27 es23 (by omega)
  refine lv_aload_n hx hb dM_four_20 rfl (lv_at hl 1 rfl) ?_
  refine lv_dup hx hb dM_four_21 rfl ?_
  refine nw_get (C := "LatticeKeysModel") (TT := T_M) (N := 14) hx hb hts (wg_ft i_M) hown hK hO k_h0 (kn := 148) (ci := 8) (fl := [(0, 0), (0, 0), (0, 0), (0, 0), (3, 149), (3, 150), (3, 151), (3, 152), (3, 161), (3, 170), (3, 171), (3, 172), (3, 184), (3, 225)]) rfl hP rfl 1 (by decide) (hts _ (wg_t kw_1527)) (fun _ h9 => h9) (cd := (0, 0)) rfl dM_four_22 (fun v26 hv26 => ?_)
  obtain rfl := (show v26 = .int (s23.1 148 1) from hv26)
  obtain ⟨z24, ez24, hz27, hz28⟩ := cl_of (b := 2147483648) hf30 (by omega) (by decide)
  replace hR := bnd_step hR ez24
  refine mi_as hz27 ?_
  refine lv_iconst (v := nI 1) hx hb dM_four_25 (by decide) ?_
  refine mi_iadd hx hb dM_four_26 ?_
  refine nw_put (C := "LatticeKeysModel") (TT := T_M) (N := 14) hx hb hts (wg_ft i_M) ty_M k_M n_M hown hK hO hU k_h0 (kn := 148) (ci := 8) (fl := [(0, 0), (0, 0), (0, 0), (0, 0), (3, 149), (3, 150), (3, 151), (3, 152), (3, 161), (3, 170), (3, 171), (3, 172), (3, 184), (3, 225)]) rfl hP hD hS rfl 1 (by decide) (hts _ (wg_t kw_1527)) (fun _ h9 => h9) rfl (by decide +kernel) rfl dM_four_27 (fun s24 pl H locs es24 hO hP hD hS => ?_)
  replace hR := bnd_step hR es24
  have hF := frm_sI hF es24 (by unfold M_M_four; omega)
  have hf31 : s24.1 148 2 = nI rs := fc_ne hf28 es24 (by omega)
  have hf32 : s24.1 148 3 = nI ks := fc_ne hf29 es24 (by omega)
  have hf34 : s24.1 148 1 = nI (z24 + 1) := fc_eq es24
  refine lv_iinc (k := 0) (v := nI 8) (lv' := [(2, .int (nI 8)), (0, .ref h0), (1, .int v)]) hx hb dM_four_30 hl rfl (by decide) (by decide) rfl (fun ls hl => ?_)
  refine lv_goto (tgt := 3) hx hb dM_four_33 (by decide) ?_
  refine lv_iload_n hx hb dM_four_3 rfl (lv_at hl 0 rfl) ?_
  refine lv_if_lt (tgt := 36) hx hb dM_four_4 (by decide) (fun h23 => absurd h23 (by decide)) (fun h23 => ?_)
  refine lv_aload_n hx hb dM_four_7 rfl (lv_at hl 1 rfl) ?_
  refine nw_get (C := "LatticeKeysModel") (TT := T_M) (N := 14) hx hb hts (wg_ft i_M) hown hK hO k_h0 (kn := 148) (ci := 8) (fl := [(0, 0), (0, 0), (0, 0), (0, 0), (3, 149), (3, 150), (3, 151), (3, 152), (3, 161), (3, 170), (3, 171), (3, 172), (3, 184), (3, 225)]) rfl hP rfl 4 (by decide) (hts _ (wg_t kw_1530)) (fun _ h9 => h9) (cd := (3, 149)) rfl dM_four_8 (fun v27 hv27 => ?_)
  obtain ⟨r23, rfl, kr23⟩ := (show ∃ r : Nat, v27 = .ref r ∧ T r = some 149 from hv27)
  refine lv_aload_n hx hb dM_four_11 rfl (lv_at hl 1 rfl) ?_
  refine nw_get (C := "LatticeKeysModel") (TT := T_M) (N := 14) hx hb hts (wg_ft i_M) hown hK hO k_h0 (kn := 148) (ci := 8) (fl := [(0, 0), (0, 0), (0, 0), (0, 0), (3, 149), (3, 150), (3, 151), (3, 152), (3, 161), (3, 170), (3, 171), (3, 172), (3, 184), (3, 225)]) rfl hP rfl 1 (by decide) (hts _ (wg_t kw_1527)) (fun _ h9 => h9) (cd := (0, 0)) rfl dM_four_12 (fun v28 hv28 => ?_)
  obtain rfl := (show v28 = .int (s24.1 148 1) from hv28)
  obtain ⟨z25, ez25, hz29, hz30⟩ := cl_of (b := 2147483648) hf34 (by omega) (by decide)
  replace hR := bnd_step hR ez25
  refine mi_as hz29 ?_
  refine lv_iload_n hx hb dM_four_15 rfl (lv_at hl 2 rfl) ?_
  refine lv_iload_n hx hb dM_four_16 rfl (lv_at hl 0 rfl) ?_
  refine lv_ishr hx hb dM_four_17 ?_
  refine lv_i2b hx hb dM_four_18 rfl ?_
  refine nw_bast hx hb hK hO hU kr23 (k := 149) rfl hP hD hS (by omega) (by omega) dM_four_19 (fun s25 pl H locs es25 hO hP hD hS => ?_)
  replace hR := bnd_step hR es25
  have hF := frm_sB hF es25 (by unfold M_M_four; omega)
  have hf35 : s25.1 148 2 = nI rs := fc_B hf31 es25 (by omega)
  have hf36 : s25.1 148 3 = nI ks := fc_B hf32 es25 (by omega)
  have hf37 : s25.1 148 1 = nI (z24 + 1) := fc_B hf34 es25 (by omega)
  refine lv_aload_n hx hb dM_four_20 rfl (lv_at hl 1 rfl) ?_
  refine lv_dup hx hb dM_four_21 rfl ?_
  refine nw_get (C := "LatticeKeysModel") (TT := T_M) (N := 14) hx hb hts (wg_ft i_M) hown hK hO k_h0 (kn := 148) (ci := 8) (fl := [(0, 0), (0, 0), (0, 0), (0, 0), (3, 149), (3, 150), (3, 151), (3, 152), (3, 161), (3, 170), (3, 171), (3, 172), (3, 184), (3, 225)]) rfl hP rfl 1 (by decide) (hts _ (wg_t kw_1527)) (fun _ h9 => h9) (cd := (0, 0)) rfl dM_four_22 (fun v29 hv29 => ?_)
  obtain rfl := (show v29 = .int (s25.1 148 1) from hv29)
  obtain ⟨z26, ez26, hz31, hz32⟩ := cl_of (b := 2147483648) hf37 (by omega) (by decide)
  replace hR := bnd_step hR ez26
  refine mi_as hz31 ?_
  refine lv_iconst (v := nI 1) hx hb dM_four_25 (by decide) ?_
  refine mi_iadd hx hb dM_four_26 ?_
  refine nw_put (C := "LatticeKeysModel") (TT := T_M) (N := 14) hx hb hts (wg_ft i_M) ty_M k_M n_M hown hK hO hU k_h0 (kn := 148) (ci := 8) (fl := [(0, 0), (0, 0), (0, 0), (0, 0), (3, 149), (3, 150), (3, 151), (3, 152), (3, 161), (3, 170), (3, 171), (3, 172), (3, 184), (3, 225)]) rfl hP hD hS rfl 1 (by decide) (hts _ (wg_t kw_1527)) (fun _ h9 => h9) rfl (by decide +kernel) rfl dM_four_27 (fun s26 pl H locs es26 hO hP hD hS => ?_)
  replace hR := bnd_step hR es26
  have hF := frm_sI hF es26 (by unfold M_M_four; omega)
  have hf38 : s26.1 148 2 = nI rs := fc_ne hf35 es26 (by omega)
  have hf39 : s26.1 148 3 = nI ks := fc_ne hf36 es26 (by omega)
  have hf41 : s26.1 148 1 = nI (z26 + 1) := fc_eq es26
  refine lv_iinc (k := 0) (v := nI 0) (lv' := [(2, .int (nI 0)), (0, .ref h0), (1, .int v)]) hx hb dM_four_30 hl rfl (by decide) (by decide) rfl (fun ls hl => ?_)
  refine lv_goto (tgt := 3) hx hb dM_four_33 (by decide) ?_
  refine lv_iload_n hx hb dM_four_3 rfl (lv_at hl 0 rfl) ?_
  refine lv_if_lt (tgt := 36) hx hb dM_four_4 (by decide) (fun h24 => absurd h24 (by decide)) (fun h24 => ?_)
  refine lv_aload_n hx hb dM_four_7 rfl (lv_at hl 1 rfl) ?_
  refine nw_get (C := "LatticeKeysModel") (TT := T_M) (N := 14) hx hb hts (wg_ft i_M) hown hK hO k_h0 (kn := 148) (ci := 8) (fl := [(0, 0), (0, 0), (0, 0), (0, 0), (3, 149), (3, 150), (3, 151), (3, 152), (3, 161), (3, 170), (3, 171), (3, 172), (3, 184), (3, 225)]) rfl hP rfl 4 (by decide) (hts _ (wg_t kw_1530)) (fun _ h9 => h9) (cd := (3, 149)) rfl dM_four_8 (fun v30 hv30 => ?_)
  obtain ⟨r24, rfl, kr24⟩ := (show ∃ r : Nat, v30 = .ref r ∧ T r = some 149 from hv30)
  refine lv_aload_n hx hb dM_four_11 rfl (lv_at hl 1 rfl) ?_
  refine nw_get (C := "LatticeKeysModel") (TT := T_M) (N := 14) hx hb hts (wg_ft i_M) hown hK hO k_h0 (kn := 148) (ci := 8) (fl := [(0, 0), (0, 0), (0, 0), (0, 0), (3, 149), (3, 150), (3, 151), (3, 152), (3, 161), (3, 170), (3, 171), (3, 172), (3, 184), (3, 225)]) rfl hP rfl 1 (by decide) (hts _ (wg_t kw_1527)) (fun _ h9 => h9) (cd := (0, 0)) rfl dM_four_12 (fun v31 hv31 => ?_)
  obtain rfl := (show v31 = .int (s26.1 148 1) from hv31)
  obtain ⟨z27, ez27, hz33, hz34⟩ := cl_of (b := 2147483648) hf41 (by omega) (by decide)
  replace hR := bnd_step hR ez27
  refine mi_as hz33 ?_
  refine lv_iload_n hx hb dM_four_15 rfl (lv_at hl 2 rfl) ?_
  refine lv_iload_n hx hb dM_four_16 rfl (lv_at hl 0 rfl) ?_
  refine lv_ishr hx hb dM_four_17 ?_
  refine lv_i2b hx hb dM_four_18 rfl ?_
  refine nw_bast hx hb hK hO hU kr24 (k := 149) rfl hP hD hS (by omega) (by omega) dM_four_19 (fun s27 pl H locs es27 hO hP hD hS => ?_)
  replace hR := bnd_step hR es27
  have hF := frm_sB hF es27 (by unfold M_M_four; omega)
  have hf42 : s27.1 148 2 = nI rs := fc_B hf38 es27 (by omega)
  have hf43 : s27.1 148 3 = nI ks := fc_B hf39 es27 (by omega)
  have hf44 : s27.1 148 1 = nI (z26 + 1) := fc_B hf41 es27 (by omega)
  refine lv_aload_n hx hb dM_four_20 rfl (lv_at hl 1 rfl) ?_
  refine lv_dup hx hb dM_four_21 rfl ?_
  refine nw_get (C := "LatticeKeysModel") (TT := T_M) (N := 14) hx hb hts (wg_ft i_M) hown hK hO k_h0 (kn := 148) (ci := 8) (fl := [(0, 0), (0, 0), (0, 0), (0, 0), (3, 149), (3, 150), (3, 151), (3, 152), (3, 161), (3, 170), (3, 171), (3, 172), (3, 184), (3, 225)]) rfl hP rfl 1 (by decide) (hts _ (wg_t kw_1527)) (fun _ h9 => h9) (cd := (0, 0)) rfl dM_four_22 (fun v32 hv32 => ?_)
  obtain rfl := (show v32 = .int (s27.1 148 1) from hv32)
  obtain ⟨z28, ez28, hz35, hz36⟩ := cl_of (b := 2147483648) hf44 (by omega) (by decide)
  replace hR := bnd_step hR ez28
  refine mi_as hz35 ?_
  refine lv_iconst (v := nI 1) hx hb dM_four_25 (by decide) ?_
  refine mi_iadd hx hb dM_four_26 ?_
  refine nw_put (C := "LatticeKeysModel") (TT := T_M) (N := 14) hx hb hts (wg_ft i_M) ty_M k_M n_M hown hK hO hU k_h0 (kn := 148) (ci := 8) (fl := [(0, 0), (0, 0), (0, 0), (0, 0), (3, 149), (3, 150), (3, 151), (3, 152), (3, 161), (3, 170), (3, 171), (3, 172), (3, 184), (3, 225)]) rfl hP hD hS rfl 1 (by decide) (hts _ (wg_t kw_1527)) (fun _ h9 => h9) rfl (by decide +kernel) rfl dM_four_27 (fun s28 pl H locs es28 hO hP hD hS => ?_)
  replace hR := bnd_step hR es28
  have hF := frm_sI hF es28 (by unfold M_M_four; omega)
  have hf45 : s28.1 148 2 = nI rs := fc_ne hf42 es28 (by omega)
  have hf46 : s28.1 148 3 = nI ks := fc_ne hf43 es28 (by omega)
  have hf48 : s28.1 148 1 = nI (z28 + 1) := fc_eq es28
  refine lv_iinc (k := 0) (v := (-8)) (lv' := [(2, .int (-8)), (0, .ref h0), (1, .int v)]) hx hb dM_four_30 hl rfl (by decide) (by decide) rfl (fun ls hl => ?_)
  refine lv_goto (tgt := 3) hx hb dM_four_33 (by decide) ?_
  refine lv_iload_n hx hb dM_four_3 rfl (lv_at hl 0 rfl) ?_
  refine lv_if_lt (tgt := 36) hx hb dM_four_4 (by decide) (fun h25 => ?_) (fun h25 => absurd h25 (by decide))
  exact mp_vret hx hb hr hlk hP hD hS (s28, pl) ⟨⟨hR.symm, hF, ⟨z28 + 1, hf48, by omega⟩, ⟨rs, hf45, by omega⟩, ⟨ks, hf46, by omega⟩, trivial⟩, hO⟩ [] rfl rfl rfl (by omega) (by omega) dM_four_36
def M_M_feed (k : Nat) : Prop := k = 148 ∨ k = 149 ∨ (0 : Nat) = 1
noncomputable def F_M_feed (v1 : Int32) (v2 : Int32) (v3 : Int32) (v4 : Int32) (v5 : Int32) (s : Sto) : Int32 × Sto := bnd (sI s 148 0 (nI 0)) fun s21 => bnd ((s21.1 148 1).toNatClampNeg) fun z21 => if z21 + 20 ≤ 16384 then bnd (F_M_four v1 s21) fun s22 => bnd (F_M_four v2 s22) fun s23 => bnd (F_M_four v3 s23) fun s24 => bnd (F_M_four v4 s24) fun s25 => bnd (F_M_four v5 s25) fun s26 => bnd ((s26.1 148 1).toNatClampNeg) fun z22 => (nI z22, s26) else bnd (F_M_fail (nI 1) s21) fun q21 => (q21.1, q21.2)
set_option maxHeartbeats 8000000 in
set_option maxRecDepth 100000 in
theorem N_M_feed (l : Launch) (g : Gd) (sz : Nat) (T : TyN) (s : Sto) (pl : va_W) (hO : okn g T s pl) (hU : inj T) (h0 : Nat) (v1 : Int32) (v2 : Int32) (v3 : Int32) (v4 : Int32) (v5 : Int32) (tp : Nat) (rs : Nat) (ks : Nat) (k_h0 : T h0 = some 148) (e_tp : s.1 148 1 = nI tp) (e_rs : s.1 148 2 = nI rs) (e_ks : s.1 148 3 = nI ks) (h1 : tp ≤ 16384) (h2 : rs ≤ 8192) (h3 : ks ≤ 8)  : Met l y_M_feed w_M_feed ({ frames := 1, cells := 0, slots := 0, locals := 22 } : Room) (va_Pc [.ref h0, .int v1, .int v2, .int v3, .int v4, .int v5] (pr (en g) g.1 vcl sz ([] ++ pl))) (va_Qi (fun (r : Int32) (u : (Int32 × Sto) × va_W) => (u.1 = F_M_feed v1 v2 v3 v4 v5 s ∧ r = u.1.1 ∧ frm (M_M_feed) s u.1.2 ∧ (∃ x : Nat, u.1.2.1 148 1 = nI x ∧ x ≤ 16384) ∧ (∃ x : Nat, u.1.2.1 148 2 = nI x ∧ x ≤ 8192) ∧ (∃ x : Nat, u.1.2.1 148 3 = nI x ∧ x ≤ 8) ∧ True) ∧ okn g T u.1.2 u.2) (po g.1 vcl (va_A ([] ++ pl) sz) (fun (u : (Int32 × Sto) × va_W) => [] ++ u.2)) (va_A ([] ++ pl) sz)) 0 0 (va_A ([] ++ pl) sz) := by
  refine mc_entry (cc := c_M_feed) (maxL := 6) (ret := (some .int)) (by decide) rfl (Nat.le_of_ble_eq_true rfl) ?_
  intro p e s0 m args below meth c ls F hr hlk hnm hsz hP hD hE hA hl
  obtain ⟨hx, hb, hml, hown, hts⟩ := id F
  have hK := hE.1
  generalize va_A ([] ++ pl) sz = A at hD hE hA ⊢
  have hS : va_S A s0.heap s0.heap [] := va_S.rf
  have hl : lv_has ls 6 [(0, .ref h0), (1, .int v1), (2, .int v2), (3, .int v3), (4, .int v4), (5, .int v5)] := hl
  have hR : F_M_feed v1 v2 v3 v4 v5 s = F_M_feed v1 v2 v3 v4 v5 s := rfl
  have hF : frm (M_M_feed) s s := frm_rf
  refine lv_aload_n hx hb dM_feed_0 rfl (lv_at hl 0 rfl) ?_
  refine lv_iconst (v := nI 0) hx hb dM_feed_1 (by decide) ?_
  refine nw_put (C := "LatticeKeysModel") (TT := T_M) (N := 14) hx hb hts (wg_ft i_M) ty_M k_M n_M hown hK hO hU k_h0 (kn := 148) (ci := 8) (fl := [(0, 0), (0, 0), (0, 0), (0, 0), (3, 149), (3, 150), (3, 151), (3, 152), (3, 161), (3, 170), (3, 171), (3, 172), (3, 184), (3, 225)]) rfl hP hD hS rfl 0 (by decide) (hts _ (wg_t kw_1526)) (fun _ h9 => h9) rfl (by decide +kernel) rfl dM_feed_2 (fun s21 pl H locs es21 hO hP hD hS => ?_)
  replace hR := bnd_step hR es21
  have hF := frm_sI hF es21 (by unfold M_M_feed; omega)
  have hf21 : s21.1 148 1 = nI tp := fc_ne e_tp es21 (by omega)
  have hf22 : s21.1 148 2 = nI rs := fc_ne e_rs es21 (by omega)
  have hf23 : s21.1 148 3 = nI ks := fc_ne e_ks es21 (by omega)
  have hf24 : s21.1 148 0 = nI 0 := fc_eq es21
  refine lv_aload_n hx hb dM_feed_5 rfl (lv_at hl 0 rfl) ?_
  refine nw_get (C := "LatticeKeysModel") (TT := T_M) (N := 14) hx hb hts (wg_ft i_M) hown hK hO k_h0 (kn := 148) (ci := 8) (fl := [(0, 0), (0, 0), (0, 0), (0, 0), (3, 149), (3, 150), (3, 151), (3, 152), (3, 161), (3, 170), (3, 171), (3, 172), (3, 184), (3, 225)]) rfl hP rfl 1 (by decide) (hts _ (wg_t kw_1527)) (fun _ h9 => h9) (cd := (0, 0)) rfl dM_feed_6 (fun v21 hv21 => ?_)
  obtain rfl := (show v21 = .int (s21.1 148 1) from hv21)
  obtain ⟨z21, ez21, hz21, hz22⟩ := cl_of (b := 2147483648) hf21 (by omega) (by decide)
  replace hR := bnd_step hR ez21
  refine mi_as hz21 ?_
  refine lv_bipush (v := nI 20) hx hb dM_feed_9 (by decide) ?_
  refine mi_iadd hx hb dM_feed_11 ?_
  refine lv_sipush (v := nI 16384) hx hb dM_feed_12 (by decide) ?_
  refine mi_le (tgt := 24) hx hb dM_feed_15 (by decide) (by omega) (by omega) (fun h21 => ?_) (fun h21 => ?_)
  · replace hR := hR.trans (if_pos h21)
    refine lv_aload_n hx hb dM_feed_24 rfl (lv_at hl 0 rfl) ?_
    refine lv_iload_n hx hb dM_feed_25 rfl (lv_at hl 1 rfl) ?_
    refine mp_v (cx := []) (wr := []) hP hD hS hA [] [] rfl rfl rfl (by decide) (va_runV (As := [.int v1]) (rest := []) F (N_M_four l g _ T s21 pl hO hU h0 v1 tp rs ks k_h0 hf21 hf22 hf23 (by omega)) (cwV 1 hts (wg_app (wg_c kw_1581 (wg_c kw_1583 (wg_c ks_51 (wg_c kw_9 wg_n)))) kw_1584) rfl rfl rfl (by decide +kernel) ⟨by decide, by decide⟩) (pn_W "LatticeKeysModel" (en_ok g) (ci := 8) (kn := 148) (fl := [(0, 0), (0, 0), (0, 0), (0, 0), (3, 149), (3, 150), (3, 151), (3, 152), (3, 161), (3, 170), (3, 171), (3, 172), (3, 184), (3, 225)]) hK hO k_h0 rfl hP hD hS hA hE [] rfl rfl rfl) rfl rfl hl.1 rfl (lv_room (Nat.le_of_ble_eq_true rfl)) dM_feed_26 ⟨by omega, by omega⟩) (fun  u21 H locs hu21 hP hD hS => ?_)
    obtain ⟨s22, pl⟩ := u21
    obtain ⟨⟨eq21, hFc21, ⟨x21, hx_21, hb_21⟩, ⟨x22, hx_22, hb_22⟩, ⟨x23, hx_23, hb_23⟩, -⟩, hO⟩ := hu21
    have hO : okn g T s22 pl := hO
    have hP : va_P g.1 vcl ([] ++ pl) _ := hP
    have hD : va_D _ ([] ++ pl) := hD
    have hFc21 : frm (M_M_four) s21 s22 := hFc21
    have hb_21 : x21 = tp + 4 := hb_21
    have hb_22 : x22 = rs := hb_22
    have hb_23 : x23 = ks := hb_23
    replace hR := bnd_step hR eq21
    have hF := frm_tr hF hFc21 (fun k hk => by unfold M_M_four at hk; unfold M_M_feed; omega)
    refine W.widen (k := 0) (n := 0) (by omega) (by omega) ?_
    refine lv_aload_n hx hb dM_feed_29 rfl (lv_at hl 0 rfl) ?_
    refine lv_iload_n hx hb dM_feed_30 rfl (lv_at hl 2 rfl) ?_
    refine mp_v (cx := []) (wr := []) hP hD hS hA [] [] rfl rfl rfl (by decide) (va_runV (As := [.int v2]) (rest := []) F (N_M_four l g _ T s22 pl hO hU h0 v2 x21 x22 x23 k_h0 hx_21 hx_22 hx_23 (by omega)) (cwV 1 hts (wg_app (wg_c kw_1581 (wg_c kw_1583 (wg_c ks_51 (wg_c kw_9 wg_n)))) kw_1584) rfl rfl rfl (by decide +kernel) ⟨by decide, by decide⟩) (pn_W "LatticeKeysModel" (en_ok g) (ci := 8) (kn := 148) (fl := [(0, 0), (0, 0), (0, 0), (0, 0), (3, 149), (3, 150), (3, 151), (3, 152), (3, 161), (3, 170), (3, 171), (3, 172), (3, 184), (3, 225)]) hK hO k_h0 rfl hP hD hS hA hE [] rfl rfl rfl) rfl rfl hl.1 rfl (lv_room (Nat.le_of_ble_eq_true rfl)) dM_feed_31 ⟨by omega, by omega⟩) (fun  u22 H locs hu22 hP hD hS => ?_)
    obtain ⟨s23, pl⟩ := u22
    obtain ⟨⟨eq22, hFc22, ⟨x25, hx_25, hb_25⟩, ⟨x26, hx_26, hb_26⟩, ⟨x27, hx_27, hb_27⟩, -⟩, hO⟩ := hu22
    have hO : okn g T s23 pl := hO
    have hP : va_P g.1 vcl ([] ++ pl) _ := hP
    have hD : va_D _ ([] ++ pl) := hD
    have hFc22 : frm (M_M_four) s22 s23 := hFc22
    have hb_25 : x25 = x21 + 4 := hb_25
    have hb_26 : x26 = x22 := hb_26
    have hb_27 : x27 = x23 := hb_27
    replace hR := bnd_step hR eq22
    have hF := frm_tr hF hFc22 (fun k hk => by unfold M_M_four at hk; unfold M_M_feed; omega)
    refine W.widen (k := 0) (n := 0) (by omega) (by omega) ?_
    refine lv_aload_n hx hb dM_feed_34 rfl (lv_at hl 0 rfl) ?_
    refine lv_iload_n hx hb dM_feed_35 rfl (lv_at hl 3 rfl) ?_
    refine mp_v (cx := []) (wr := []) hP hD hS hA [] [] rfl rfl rfl (by decide) (va_runV (As := [.int v3]) (rest := []) F (N_M_four l g _ T s23 pl hO hU h0 v3 x25 x26 x27 k_h0 hx_25 hx_26 hx_27 (by omega)) (cwV 1 hts (wg_app (wg_c kw_1581 (wg_c kw_1583 (wg_c ks_51 (wg_c kw_9 wg_n)))) kw_1584) rfl rfl rfl (by decide +kernel) ⟨by decide, by decide⟩) (pn_W "LatticeKeysModel" (en_ok g) (ci := 8) (kn := 148) (fl := [(0, 0), (0, 0), (0, 0), (0, 0), (3, 149), (3, 150), (3, 151), (3, 152), (3, 161), (3, 170), (3, 171), (3, 172), (3, 184), (3, 225)]) hK hO k_h0 rfl hP hD hS hA hE [] rfl rfl rfl) rfl rfl hl.1 rfl (lv_room (Nat.le_of_ble_eq_true rfl)) dM_feed_36 ⟨by omega, by omega⟩) (fun  u23 H locs hu23 hP hD hS => ?_)
    obtain ⟨s24, pl⟩ := u23
    obtain ⟨⟨eq23, hFc23, ⟨x29, hx_29, hb_29⟩, ⟨x30, hx_30, hb_30⟩, ⟨x31, hx_31, hb_31⟩, -⟩, hO⟩ := hu23
    have hO : okn g T s24 pl := hO
    have hP : va_P g.1 vcl ([] ++ pl) _ := hP
    have hD : va_D _ ([] ++ pl) := hD
    have hFc23 : frm (M_M_four) s23 s24 := hFc23
    have hb_29 : x29 = x25 + 4 := hb_29
    have hb_30 : x30 = x26 := hb_30
    have hb_31 : x31 = x27 := hb_31
    replace hR := bnd_step hR eq23
    have hF := frm_tr hF hFc23 (fun k hk => by unfold M_M_four at hk; unfold M_M_feed; omega)
    refine W.widen (k := 0) (n := 0) (by omega) (by omega) ?_
    refine lv_aload_n hx hb dM_feed_39 rfl (lv_at hl 0 rfl) ?_
    refine lv_iload hx hb dM_feed_40 (lv_at hl 4 rfl) ?_
    refine mp_v (cx := []) (wr := []) hP hD hS hA [] [] rfl rfl rfl (by decide) (va_runV (As := [.int v4]) (rest := []) F (N_M_four l g _ T s24 pl hO hU h0 v4 x29 x30 x31 k_h0 hx_29 hx_30 hx_31 (by omega)) (cwV 1 hts (wg_app (wg_c kw_1581 (wg_c kw_1583 (wg_c ks_51 (wg_c kw_9 wg_n)))) kw_1584) rfl rfl rfl (by decide +kernel) ⟨by decide, by decide⟩) (pn_W "LatticeKeysModel" (en_ok g) (ci := 8) (kn := 148) (fl := [(0, 0), (0, 0), (0, 0), (0, 0), (3, 149), (3, 150), (3, 151), (3, 152), (3, 161), (3, 170), (3, 171), (3, 172), (3, 184), (3, 225)]) hK hO k_h0 rfl hP hD hS hA hE [] rfl rfl rfl) rfl rfl hl.1 rfl (lv_room (Nat.le_of_ble_eq_true rfl)) dM_feed_42 ⟨by omega, by omega⟩) (fun  u24 H locs hu24 hP hD hS => ?_)
    obtain ⟨s25, pl⟩ := u24
    obtain ⟨⟨eq24, hFc24, ⟨x33, hx_33, hb_33⟩, ⟨x34, hx_34, hb_34⟩, ⟨x35, hx_35, hb_35⟩, -⟩, hO⟩ := hu24
    have hO : okn g T s25 pl := hO
    have hP : va_P g.1 vcl ([] ++ pl) _ := hP
    have hD : va_D _ ([] ++ pl) := hD
    have hFc24 : frm (M_M_four) s24 s25 := hFc24
    have hb_33 : x33 = x29 + 4 := hb_33
    have hb_34 : x34 = x30 := hb_34
    have hb_35 : x35 = x31 := hb_35
    replace hR := bnd_step hR eq24
    have hF := frm_tr hF hFc24 (fun k hk => by unfold M_M_four at hk; unfold M_M_feed; omega)
    refine W.widen (k := 0) (n := 0) (by omega) (by omega) ?_
    refine lv_aload_n hx hb dM_feed_45 rfl (lv_at hl 0 rfl) ?_
    refine lv_iload hx hb dM_feed_46 (lv_at hl 5 rfl) ?_
    refine mp_v (cx := []) (wr := []) hP hD hS hA [] [] rfl rfl rfl (by decide) (va_runV (As := [.int v5]) (rest := []) F (N_M_four l g _ T s25 pl hO hU h0 v5 x33 x34 x35 k_h0 hx_33 hx_34 hx_35 (by omega)) (cwV 1 hts (wg_app (wg_c kw_1581 (wg_c kw_1583 (wg_c ks_51 (wg_c kw_9 wg_n)))) kw_1584) rfl rfl rfl (by decide +kernel) ⟨by decide, by decide⟩) (pn_W "LatticeKeysModel" (en_ok g) (ci := 8) (kn := 148) (fl := [(0, 0), (0, 0), (0, 0), (0, 0), (3, 149), (3, 150), (3, 151), (3, 152), (3, 161), (3, 170), (3, 171), (3, 172), (3, 184), (3, 225)]) hK hO k_h0 rfl hP hD hS hA hE [] rfl rfl rfl) rfl rfl hl.1 rfl (lv_room (Nat.le_of_ble_eq_true rfl)) dM_feed_48 ⟨by omega, by omega⟩) (fun  u25 H locs hu25 hP hD hS => ?_)
    obtain ⟨s26, pl⟩ := u25
    obtain ⟨⟨eq25, hFc25, ⟨x37, hx_37, hb_37⟩, ⟨x38, hx_38, hb_38⟩, ⟨x39, hx_39, hb_39⟩, -⟩, hO⟩ := hu25
    have hO : okn g T s26 pl := hO
    have hP : va_P g.1 vcl ([] ++ pl) _ := hP
    have hD : va_D _ ([] ++ pl) := hD
    have hFc25 : frm (M_M_four) s25 s26 := hFc25
    have hb_37 : x37 = x33 + 4 := hb_37
    have hb_38 : x38 = x34 := hb_38
    have hb_39 : x39 = x35 := hb_39
    replace hR := bnd_step hR eq25
    have hF := frm_tr hF hFc25 (fun k hk => by unfold M_M_four at hk; unfold M_M_feed; omega)
    refine W.widen (k := 0) (n := 0) (by omega) (by omega) ?_
    refine lv_aload_n hx hb dM_feed_51 rfl (lv_at hl 0 rfl) ?_
    refine nw_get (C := "LatticeKeysModel") (TT := T_M) (N := 14) hx hb hts (wg_ft i_M) hown hK hO k_h0 (kn := 148) (ci := 8) (fl := [(0, 0), (0, 0), (0, 0), (0, 0), (3, 149), (3, 150), (3, 151), (3, 152), (3, 161), (3, 170), (3, 171), (3, 172), (3, 184), (3, 225)]) rfl hP rfl 1 (by decide) (hts _ (wg_t kw_1527)) (fun _ h9 => h9) (cd := (0, 0)) rfl dM_feed_52 (fun v22 hv22 => ?_)
    obtain rfl := (show v22 = .int (s26.1 148 1) from hv22)
    obtain ⟨z22, ez22, hz23, hz24⟩ := cl_of (b := 2147483648) hx_37 (by omega) (by decide)
    replace hR := bnd_step hR ez22
    refine mi_as hz23 ?_
    exact mp_iret hx hb hr hlk hP hD hS ((nI z22, s26), pl) ⟨⟨hR.symm, rfl, hF, ⟨x37, hx_37, by omega⟩, ⟨x38, hx_38, by omega⟩, ⟨x39, hx_39, by omega⟩, trivial⟩, hO⟩ [] rfl rfl rfl (by omega) (by omega) dM_feed_55
  · replace hR := hR.trans (if_neg (Nat.not_le.mpr h21))
    refine lv_aload_n hx hb dM_feed_18 rfl (lv_at hl 0 rfl) ?_
    refine lv_iconst (v := nI 1) hx hb dM_feed_19 (by decide) ?_
    refine mp_i (cx := []) (wr := []) hP hD hS hA [] [] rfl rfl rfl (by decide) (va_runV (As := [.int (nI 1)]) (rest := []) F (N_M_fail l g _ T s21 pl hO hU h0 (nI 1) tp rs ks k_h0 hf21 hf22 hf23) (cwV 1 hts (wg_app (wg_c kw_1577 (wg_c kw_1579 (wg_c ks_50 (wg_c kw_9 wg_n)))) kw_1580) rfl rfl rfl (by decide +kernel) ⟨by decide, by decide⟩) (pn_W "LatticeKeysModel" (en_ok g) (ci := 8) (kn := 148) (fl := [(0, 0), (0, 0), (0, 0), (0, 0), (3, 149), (3, 150), (3, 151), (3, 152), (3, 161), (3, 170), (3, 171), (3, 172), (3, 184), (3, 225)]) hK hO k_h0 rfl hP hD hS hA hE [] rfl rfl rfl) rfl rfl hl.1 rfl (lv_room (Nat.le_of_ble_eq_true rfl)) dM_feed_20 ⟨by omega, by omega⟩) (fun r21 u26 H locs hu26 hP hD hS => ?_)
    obtain ⟨q21, pl⟩ := u26
    obtain ⟨⟨eq26, rfl, hFc26, ⟨x41, hx_41, hb_41⟩, ⟨x42, hx_42, hb_42⟩, ⟨x43, hx_43, hb_43⟩, -⟩, hO⟩ := hu26
    have hO : okn g T q21.2 pl := hO
    have hP : va_P g.1 vcl ([] ++ pl) _ := hP
    have hD : va_D _ ([] ++ pl) := hD
    have hFc26 : frm (M_M_fail) s21 q21.2 := hFc26
    have hb_41 : x41 = tp := hb_41
    have hb_42 : x42 = rs := hb_42
    have hb_43 : x43 = ks := hb_43
    replace hR := bnd_step hR eq26
    have hF := frm_tr hF hFc26 (fun k hk => by unfold M_M_fail at hk; unfold M_M_feed; omega)
    refine W.widen (k := 0) (n := 0) (by omega) (by omega) ?_
    exact mp_iret hx hb hr hlk hP hD hS ((q21.1, q21.2), pl) ⟨⟨hR.symm, rfl, hF, ⟨x41, hx_41, by omega⟩, ⟨x42, hx_42, by omega⟩, ⟨x43, hx_43, by omega⟩, trivial⟩, hO⟩ [] rfl rfl rfl (by omega) (by omega) dM_feed_23
def M_M_count (k : Nat) : Prop := k = 148 ∨ (0 : Nat) = 1
noncomputable def F_M_count (v : Int32) (s : Sto) : Int32 × Sto := bnd (sI s 148 0 (nI 0)) fun s21 => if v = 0 then bnd ((s21.1 148 1).toNatClampNeg) fun z23 => (nI z23, s21) else if v = (nI 1) then bnd ((s21.1 148 3).toNatClampNeg) fun z22 => (nI z22, s21) else if v = (nI 2) then bnd ((s21.1 148 2).toNatClampNeg) fun z21 => (nI z21, s21) else ((-1), s21)
set_option maxHeartbeats 8000000 in
set_option maxRecDepth 100000 in
theorem N_M_count (l : Launch) (g : Gd) (sz : Nat) (T : TyN) (s : Sto) (pl : va_W) (hO : okn g T s pl) (hU : inj T) (h0 : Nat) (v : Int32) (tp : Nat) (rs : Nat) (ks : Nat) (k_h0 : T h0 = some 148) (e_tp : s.1 148 1 = nI tp) (e_rs : s.1 148 2 = nI rs) (e_ks : s.1 148 3 = nI ks) (h1 : tp ≤ 16384) (h2 : rs ≤ 8192) (h3 : ks ≤ 8)  : Met l y_M_count w_M_count ({ frames := 0, cells := 0, slots := 0, locals := 0 } : Room) (va_Pc [.ref h0, .int v] (pr (en g) g.1 vcl sz ([] ++ pl))) (va_Qi (fun (r : Int32) (u : (Int32 × Sto) × va_W) => (u.1 = F_M_count v s ∧ r = u.1.1 ∧ frm (M_M_count) s u.1.2 ∧ (∃ x : Nat, u.1.2.1 148 1 = nI x ∧ x = tp) ∧ (∃ x : Nat, u.1.2.1 148 2 = nI x ∧ x = rs) ∧ (∃ x : Nat, u.1.2.1 148 3 = nI x ∧ x = ks) ∧ True) ∧ okn g T u.1.2 u.2) (po g.1 vcl (va_A ([] ++ pl) sz) (fun (u : (Int32 × Sto) × va_W) => [] ++ u.2)) (va_A ([] ++ pl) sz)) 0 0 (va_A ([] ++ pl) sz) := by
  refine mc_entry (cc := c_M_count) (maxL := 2) (ret := (some .int)) (by decide) rfl (Nat.le_of_ble_eq_true rfl) ?_
  intro p e s0 m args below meth c ls F hr hlk hnm hsz hP hD hE hA hl
  obtain ⟨hx, hb, hml, hown, hts⟩ := id F
  have hK := hE.1
  generalize va_A ([] ++ pl) sz = A at hD hE hA ⊢
  have hS : va_S A s0.heap s0.heap [] := va_S.rf
  have hl : lv_has ls 2 [(0, .ref h0), (1, .int v)] := hl
  have hR : F_M_count v s = F_M_count v s := rfl
  have hF : frm (M_M_count) s s := frm_rf
  refine lv_aload_n hx hb dM_count_0 rfl (lv_at hl 0 rfl) ?_
  refine lv_iconst (v := nI 0) hx hb dM_count_1 (by decide) ?_
  refine nw_put (C := "LatticeKeysModel") (TT := T_M) (N := 14) hx hb hts (wg_ft i_M) ty_M k_M n_M hown hK hO hU k_h0 (kn := 148) (ci := 8) (fl := [(0, 0), (0, 0), (0, 0), (0, 0), (3, 149), (3, 150), (3, 151), (3, 152), (3, 161), (3, 170), (3, 171), (3, 172), (3, 184), (3, 225)]) rfl hP hD hS rfl 0 (by decide) (hts _ (wg_t kw_1526)) (fun _ h9 => h9) rfl (by decide +kernel) rfl dM_count_2 (fun s21 pl H locs es21 hO hP hD hS => ?_)
  replace hR := bnd_step hR es21
  have hF := frm_sI hF es21 (by unfold M_M_count; omega)
  have hf21 : s21.1 148 1 = nI tp := fc_ne e_tp es21 (by omega)
  have hf22 : s21.1 148 2 = nI rs := fc_ne e_rs es21 (by omega)
  have hf23 : s21.1 148 3 = nI ks := fc_ne e_ks es21 (by omega)
  have hf24 : s21.1 148 0 = nI 0 := fc_eq es21
  refine lv_iload_n hx hb dM_count_5 rfl (lv_at hl 1 rfl) ?_
  refine lv_if_ne (tgt := 16) hx hb dM_count_6 (by decide) (fun h21 => ?_) (fun h21 => ?_)
  · replace hR := hR.trans (if_neg h21)
    refine lv_iload_n hx hb dM_count_16 rfl (lv_at hl 1 rfl) ?_
    refine lv_iconst (v := nI 1) hx hb dM_count_17 (by decide) ?_
    refine lv_icmp_ne (tgt := 28) hx hb dM_count_18 (by decide) (fun h22 => ?_) (fun h22 => ?_)
    · replace hR := hR.trans (if_neg h22)
      refine lv_iload_n hx hb dM_count_28 rfl (lv_at hl 1 rfl) ?_
      refine lv_iconst (v := nI 2) hx hb dM_count_29 (by decide) ?_
      refine lv_icmp_ne (tgt := 40) hx hb dM_count_30 (by decide) (fun h23 => ?_) (fun h23 => ?_)
      · replace hR := hR.trans (if_neg h23)
        refine lv_iconst (v := (-1)) hx hb dM_count_40 (by decide) ?_
        exact mp_iret hx hb hr hlk hP hD hS (((-1), s21), pl) ⟨⟨hR.symm, rfl, hF, ⟨tp, hf21, by omega⟩, ⟨rs, hf22, by omega⟩, ⟨ks, hf23, by omega⟩, trivial⟩, hO⟩ [] rfl rfl rfl (by omega) (by omega) dM_count_41
      · replace hR := hR.trans (if_pos h23)
        refine lv_aload_n hx hb dM_count_33 rfl (lv_at hl 0 rfl) ?_
        refine nw_get (C := "LatticeKeysModel") (TT := T_M) (N := 14) hx hb hts (wg_ft i_M) hown hK hO k_h0 (kn := 148) (ci := 8) (fl := [(0, 0), (0, 0), (0, 0), (0, 0), (3, 149), (3, 150), (3, 151), (3, 152), (3, 161), (3, 170), (3, 171), (3, 172), (3, 184), (3, 225)]) rfl hP rfl 2 (by decide) (hts _ (wg_t kw_1528)) (fun _ h9 => h9) (cd := (0, 0)) rfl dM_count_34 (fun v21 hv21 => ?_)
        obtain rfl := (show v21 = .int (s21.1 148 2) from hv21)
        obtain ⟨z21, ez21, hz21, hz22⟩ := cl_of (b := 2147483648) hf22 (by omega) (by decide)
        replace hR := bnd_step hR ez21
        refine mi_as hz21 ?_
        refine lv_goto (tgt := 41) hx hb dM_count_37 (by decide) ?_
        exact mp_iret hx hb hr hlk hP hD hS ((nI z21, s21), pl) ⟨⟨hR.symm, rfl, hF, ⟨tp, hf21, by omega⟩, ⟨rs, hf22, by omega⟩, ⟨ks, hf23, by omega⟩, trivial⟩, hO⟩ [] rfl rfl rfl (by omega) (by omega) dM_count_41
    · replace hR := hR.trans (if_pos h22)
      refine lv_aload_n hx hb dM_count_21 rfl (lv_at hl 0 rfl) ?_
      refine nw_get (C := "LatticeKeysModel") (TT := T_M) (N := 14) hx hb hts (wg_ft i_M) hown hK hO k_h0 (kn := 148) (ci := 8) (fl := [(0, 0), (0, 0), (0, 0), (0, 0), (3, 149), (3, 150), (3, 151), (3, 152), (3, 161), (3, 170), (3, 171), (3, 172), (3, 184), (3, 225)]) rfl hP rfl 3 (by decide) (hts _ (wg_t kw_1529)) (fun _ h9 => h9) (cd := (0, 0)) rfl dM_count_22 (fun v22 hv22 => ?_)
      obtain rfl := (show v22 = .int (s21.1 148 3) from hv22)
      obtain ⟨z22, ez22, hz23, hz24⟩ := cl_of (b := 2147483648) hf23 (by omega) (by decide)
      replace hR := bnd_step hR ez22
      refine mi_as hz23 ?_
      refine lv_goto (tgt := 41) hx hb dM_count_25 (by decide) ?_
      exact mp_iret hx hb hr hlk hP hD hS ((nI z22, s21), pl) ⟨⟨hR.symm, rfl, hF, ⟨tp, hf21, by omega⟩, ⟨rs, hf22, by omega⟩, ⟨ks, hf23, by omega⟩, trivial⟩, hO⟩ [] rfl rfl rfl (by omega) (by omega) dM_count_41
  · replace hR := hR.trans (if_pos h21)
    refine lv_aload_n hx hb dM_count_9 rfl (lv_at hl 0 rfl) ?_
    refine nw_get (C := "LatticeKeysModel") (TT := T_M) (N := 14) hx hb hts (wg_ft i_M) hown hK hO k_h0 (kn := 148) (ci := 8) (fl := [(0, 0), (0, 0), (0, 0), (0, 0), (3, 149), (3, 150), (3, 151), (3, 152), (3, 161), (3, 170), (3, 171), (3, 172), (3, 184), (3, 225)]) rfl hP rfl 1 (by decide) (hts _ (wg_t kw_1527)) (fun _ h9 => h9) (cd := (0, 0)) rfl dM_count_10 (fun v23 hv23 => ?_)
    obtain rfl := (show v23 = .int (s21.1 148 1) from hv23)
    obtain ⟨z23, ez23, hz25, hz26⟩ := cl_of (b := 2147483648) hf21 (by omega) (by decide)
    replace hR := bnd_step hR ez23
    refine mi_as hz25 ?_
    refine lv_goto (tgt := 41) hx hb dM_count_13 (by decide) ?_
    exact mp_iret hx hb hr hlk hP hD hS ((nI z23, s21), pl) ⟨⟨hR.symm, rfl, hF, ⟨tp, hf21, by omega⟩, ⟨rs, hf22, by omega⟩, ⟨ks, hf23, by omega⟩, trivial⟩, hO⟩ [] rfl rfl rfl (by omega) (by omega) dM_count_41
def M_M_again (k : Nat) : Prop := k = 148 ∨ k = 149 ∨ (0 : Nat) = 1
noncomputable def F_M_again_L0 : Nat → Nat → Sto → Int32 × Sto
  | 0, i21, s22 => bnd ((s22.1 148 2).toNatClampNeg) fun z23 => bnd ((s22.1 148 1).toNatClampNeg) fun z24 => bnd ((s22.1 148 2).toNatClampNeg) fun z25 => bnd (sI s22 148 1 (nI (z24 + z25))) fun s23 => bnd ((s23.1 148 1).toNatClampNeg) fun z26 => (nI z26, s23)
  | n21 + 1, i21, s22 => bnd ((s22.1 148 2).toNatClampNeg) fun z27 => bnd ((s22.1 148 1).toNatClampNeg) fun z28 => bnd (sB s22 149 (z28 + i21) (s22.1 150 i21)) fun s24 => F_M_again_L0  n21 (i21 + 1) s24
noncomputable def F_M_again (s : Sto) : Int32 × Sto := bnd (sI s 148 0 (nI 0)) fun s21 => bnd ((s21.1 148 1).toNatClampNeg) fun z21 => bnd ((s21.1 148 2).toNatClampNeg) fun z22 => if z21 + z22 ≤ 16384 then F_M_again_L0 z22 0 s21 else bnd (F_M_fail (nI 1) s21) fun q21 => (q21.1, q21.2)
set_option maxHeartbeats 8000000 in
set_option maxRecDepth 100000 in
theorem N_M_again (l : Launch) (g : Gd) (sz : Nat) (T : TyN) (s : Sto) (pl : va_W) (hO : okn g T s pl) (hU : inj T) (h0 : Nat) (tp : Nat) (rs : Nat) (ks : Nat) (k_h0 : T h0 = some 148) (e_tp : s.1 148 1 = nI tp) (e_rs : s.1 148 2 = nI rs) (e_ks : s.1 148 3 = nI ks) (h1 : tp ≤ 16384) (h2 : rs ≤ 8192) (h3 : ks ≤ 8)  : Met l y_M_again w_M_again ({ frames := 1, cells := 0, slots := 0, locals := 21 } : Room) (va_Pc [.ref h0] (pr (en g) g.1 vcl sz ([] ++ pl))) (va_Qi (fun (r : Int32) (u : (Int32 × Sto) × va_W) => (u.1 = F_M_again s ∧ r = u.1.1 ∧ frm (M_M_again) s u.1.2 ∧ (∃ x : Nat, u.1.2.1 148 1 = nI x ∧ x ≤ 16384) ∧ (∃ x : Nat, u.1.2.1 148 2 = nI x ∧ x ≤ 8192) ∧ (∃ x : Nat, u.1.2.1 148 3 = nI x ∧ x ≤ 8) ∧ True) ∧ okn g T u.1.2 u.2) (po g.1 vcl (va_A ([] ++ pl) sz) (fun (u : (Int32 × Sto) × va_W) => [] ++ u.2)) (va_A ([] ++ pl) sz)) 0 0 (va_A ([] ++ pl) sz) := by
  refine mc_entry (cc := c_M_again) (maxL := 2) (ret := (some .int)) (by decide) rfl (Nat.le_of_ble_eq_true rfl) ?_
  intro p e s0 m args below meth c ls F hr hlk hnm hsz hP hD hE hA hl
  obtain ⟨hx, hb, hml, hown, hts⟩ := id F
  have hK := hE.1
  generalize va_A ([] ++ pl) sz = A at hD hE hA ⊢
  have hS : va_S A s0.heap s0.heap [] := va_S.rf
  have hl : lv_has ls 2 [(0, .ref h0)] := hl
  have hR : F_M_again s = F_M_again s := rfl
  have hF : frm (M_M_again) s s := frm_rf
  refine lv_aload_n hx hb dM_again_0 rfl (lv_at hl 0 rfl) ?_
  refine lv_iconst (v := nI 0) hx hb dM_again_1 (by decide) ?_
  refine nw_put (C := "LatticeKeysModel") (TT := T_M) (N := 14) hx hb hts (wg_ft i_M) ty_M k_M n_M hown hK hO hU k_h0 (kn := 148) (ci := 8) (fl := [(0, 0), (0, 0), (0, 0), (0, 0), (3, 149), (3, 150), (3, 151), (3, 152), (3, 161), (3, 170), (3, 171), (3, 172), (3, 184), (3, 225)]) rfl hP hD hS rfl 0 (by decide) (hts _ (wg_t kw_1526)) (fun _ h9 => h9) rfl (by decide +kernel) rfl dM_again_2 (fun s21 pl H locs es21 hO hP hD hS => ?_)
  replace hR := bnd_step hR es21
  have hF := frm_sI hF es21 (by unfold M_M_again; omega)
  have hf21 : s21.1 148 1 = nI tp := fc_ne e_tp es21 (by omega)
  have hf22 : s21.1 148 2 = nI rs := fc_ne e_rs es21 (by omega)
  have hf23 : s21.1 148 3 = nI ks := fc_ne e_ks es21 (by omega)
  have hf24 : s21.1 148 0 = nI 0 := fc_eq es21
  refine lv_aload_n hx hb dM_again_5 rfl (lv_at hl 0 rfl) ?_
  refine nw_get (C := "LatticeKeysModel") (TT := T_M) (N := 14) hx hb hts (wg_ft i_M) hown hK hO k_h0 (kn := 148) (ci := 8) (fl := [(0, 0), (0, 0), (0, 0), (0, 0), (3, 149), (3, 150), (3, 151), (3, 152), (3, 161), (3, 170), (3, 171), (3, 172), (3, 184), (3, 225)]) rfl hP rfl 1 (by decide) (hts _ (wg_t kw_1527)) (fun _ h9 => h9) (cd := (0, 0)) rfl dM_again_6 (fun v21 hv21 => ?_)
  obtain rfl := (show v21 = .int (s21.1 148 1) from hv21)
  obtain ⟨z21, ez21, hz21, hz22⟩ := cl_of (b := 2147483648) hf21 (by omega) (by decide)
  replace hR := bnd_step hR ez21
  refine mi_as hz21 ?_
  refine lv_aload_n hx hb dM_again_9 rfl (lv_at hl 0 rfl) ?_
  refine nw_get (C := "LatticeKeysModel") (TT := T_M) (N := 14) hx hb hts (wg_ft i_M) hown hK hO k_h0 (kn := 148) (ci := 8) (fl := [(0, 0), (0, 0), (0, 0), (0, 0), (3, 149), (3, 150), (3, 151), (3, 152), (3, 161), (3, 170), (3, 171), (3, 172), (3, 184), (3, 225)]) rfl hP rfl 2 (by decide) (hts _ (wg_t kw_1528)) (fun _ h9 => h9) (cd := (0, 0)) rfl dM_again_10 (fun v22 hv22 => ?_)
  obtain rfl := (show v22 = .int (s21.1 148 2) from hv22)
  obtain ⟨z22, ez22, hz23, hz24⟩ := cl_of (b := 2147483648) hf22 (by omega) (by decide)
  replace hR := bnd_step hR ez22
  refine mi_as hz23 ?_
  refine mi_iadd hx hb dM_again_13 ?_
  refine lv_sipush (v := nI 16384) hx hb dM_again_14 (by decide) ?_
  refine mi_le (tgt := 26) hx hb dM_again_17 (by decide) (by omega) (by omega) (fun h21 => ?_) (fun h21 => ?_)
  · replace hR := hR.trans (if_pos h21)
    refine lv_iconst (v := nI 0) hx hb dM_again_26 (by decide) ?_
    refine lv_istore_n (lv' := [(1, .int (nI 0)), (0, .ref h0)]) hx hb dM_again_27 rfl hl (by decide) rfl (fun ls hl => ?_)
    have lp21 : ∀ (n21 : Nat) (i21 : Nat) (s22 : Sto) (pl : va_W) (ls : Array Slot) (H : Heap) (locs : List Loc), n21 + i21 = z22 → frm (M_M_again) s s22 → s22.1 148 1 = nI tp → s22.1 148 2 = nI rs → s22.1 148 3 = nI ks → s22.1 148 0 = nI 0 → F_M_again s = F_M_again_L0 n21 i21 s22 → lv_has ls 2 [(1, .int (nI i21)), (0, .ref h0)] → okn g T s22 pl → va_P g.1 vcl ([] ++ pl) H → va_D A ([] ++ pl) → va_S A s0.heap H locs → W p l e ({ frames := 1, cells := 0, slots := 0, locals := 21 } : Room) s0 m args below meth c H locs 0 0 (MQ below (va_Qi (fun (r : Int32) (u : (Int32 × Sto) × va_W) => (u.1 = F_M_again s ∧ r = u.1.1 ∧ frm (M_M_again) s u.1.2 ∧ (∃ x : Nat, u.1.2.1 148 1 = nI x ∧ x ≤ 16384) ∧ (∃ x : Nat, u.1.2.1 148 2 = nI x ∧ x ≤ 8192) ∧ (∃ x : Nat, u.1.2.1 148 3 = nI x ∧ x ≤ 8) ∧ True) ∧ okn g T u.1.2 u.2) (po g.1 vcl A (fun (u : (Int32 × Sto) × va_W) => [] ++ u.2)) A) args s0 0 0 A) (F0 m 28 ls []) := by
      intro n21
      induction n21 with
      | zero =>
        intro i21 s22 pl ls H locs hm21 hF hf25 hf26 hf27 hf28 hR hl hO hP hD hS
        refine lv_iload_n hx hb dM_again_28 rfl (lv_at hl 0 rfl) ?_
        refine lv_aload_n hx hb dM_again_29 rfl (lv_at hl 1 rfl) ?_
        refine nw_get (C := "LatticeKeysModel") (TT := T_M) (N := 14) hx hb hts (wg_ft i_M) hown hK hO k_h0 (kn := 148) (ci := 8) (fl := [(0, 0), (0, 0), (0, 0), (0, 0), (3, 149), (3, 150), (3, 151), (3, 152), (3, 161), (3, 170), (3, 171), (3, 172), (3, 184), (3, 225)]) rfl hP rfl 2 (by decide) (hts _ (wg_t kw_1528)) (fun _ h9 => h9) (cd := (0, 0)) rfl dM_again_30 (fun v23 hv23 => ?_)
        obtain rfl := (show v23 = .int (s22.1 148 2) from hv23)
        obtain ⟨z23, ez23, hz25, hz26⟩ := cl_of (b := 2147483648) hf26 (by omega) (by decide)
        replace hR := bnd_step hR ez23
        refine mi_as hz25 ?_
        refine mi_ge (tgt := 59) hx hb dM_again_33 (by decide) (by omega) (by omega) (fun h22 => ?_) (fun h22 => absurd h22 (by omega))
        refine lv_aload_n hx hb dM_again_59 rfl (lv_at hl 1 rfl) ?_
        refine lv_dup hx hb dM_again_60 rfl ?_
        refine nw_get (C := "LatticeKeysModel") (TT := T_M) (N := 14) hx hb hts (wg_ft i_M) hown hK hO k_h0 (kn := 148) (ci := 8) (fl := [(0, 0), (0, 0), (0, 0), (0, 0), (3, 149), (3, 150), (3, 151), (3, 152), (3, 161), (3, 170), (3, 171), (3, 172), (3, 184), (3, 225)]) rfl hP rfl 1 (by decide) (hts _ (wg_t kw_1527)) (fun _ h9 => h9) (cd := (0, 0)) rfl dM_again_61 (fun v24 hv24 => ?_)
        obtain rfl := (show v24 = .int (s22.1 148 1) from hv24)
        obtain ⟨z24, ez24, hz27, hz28⟩ := cl_of (b := 2147483648) hf25 (by omega) (by decide)
        replace hR := bnd_step hR ez24
        refine mi_as hz27 ?_
        refine lv_aload_n hx hb dM_again_64 rfl (lv_at hl 1 rfl) ?_
        refine nw_get (C := "LatticeKeysModel") (TT := T_M) (N := 14) hx hb hts (wg_ft i_M) hown hK hO k_h0 (kn := 148) (ci := 8) (fl := [(0, 0), (0, 0), (0, 0), (0, 0), (3, 149), (3, 150), (3, 151), (3, 152), (3, 161), (3, 170), (3, 171), (3, 172), (3, 184), (3, 225)]) rfl hP rfl 2 (by decide) (hts _ (wg_t kw_1528)) (fun _ h9 => h9) (cd := (0, 0)) rfl dM_again_65 (fun v25 hv25 => ?_)
        obtain rfl := (show v25 = .int (s22.1 148 2) from hv25)
        obtain ⟨z25, ez25, hz29, hz30⟩ := cl_of (b := 2147483648) hf26 (by omega) (by decide)
        replace hR := bnd_step hR ez25
        refine mi_as hz29 ?_
        refine mi_iadd hx hb dM_again_68 ?_
        refine nw_put (C := "LatticeKeysModel") (TT := T_M) (N := 14) hx hb hts (wg_ft i_M) ty_M k_M n_M hown hK hO hU k_h0 (kn := 148) (ci := 8) (fl := [(0, 0), (0, 0), (0, 0), (0, 0), (3, 149), (3, 150), (3, 151), (3, 152), (3, 161), (3, 170), (3, 171), (3, 172), (3, 184), (3, 225)]) rfl hP hD hS rfl 1 (by decide) (hts _ (wg_t kw_1527)) (fun _ h9 => h9) rfl (by decide +kernel) rfl dM_again_69 (fun s23 pl H locs es22 hO hP hD hS => ?_)
        replace hR := bnd_step hR es22
        have hF := frm_sI hF es22 (by unfold M_M_again; omega)
        have hf30 : s23.1 148 2 = nI rs := fc_ne hf26 es22 (by omega)
        have hf31 : s23.1 148 3 = nI ks := fc_ne hf27 es22 (by omega)
        have hf32 : s23.1 148 0 = nI 0 := fc_ne hf28 es22 (by omega)
        have hf33 : s23.1 148 1 = nI (z24 + z25) := fc_eq es22
        refine lv_aload_n hx hb dM_again_72 rfl (lv_at hl 1 rfl) ?_
        refine nw_get (C := "LatticeKeysModel") (TT := T_M) (N := 14) hx hb hts (wg_ft i_M) hown hK hO k_h0 (kn := 148) (ci := 8) (fl := [(0, 0), (0, 0), (0, 0), (0, 0), (3, 149), (3, 150), (3, 151), (3, 152), (3, 161), (3, 170), (3, 171), (3, 172), (3, 184), (3, 225)]) rfl hP rfl 1 (by decide) (hts _ (wg_t kw_1527)) (fun _ h9 => h9) (cd := (0, 0)) rfl dM_again_73 (fun v26 hv26 => ?_)
        obtain rfl := (show v26 = .int (s23.1 148 1) from hv26)
        obtain ⟨z26, ez26, hz31, hz32⟩ := cl_of (b := 2147483648) hf33 (by omega) (by decide)
        replace hR := bnd_step hR ez26
        refine mi_as hz31 ?_
        exact mp_iret hx hb hr hlk hP hD hS ((nI z26, s23), pl) ⟨⟨hR.symm, rfl, hF, ⟨z24 + z25, hf33, by omega⟩, ⟨rs, hf30, by omega⟩, ⟨ks, hf31, by omega⟩, trivial⟩, hO⟩ [] rfl rfl rfl (by omega) (by omega) dM_again_76
      | succ n21 ih21 =>
        intro i21 s22 pl ls H locs hm21 hF hf34 hf35 hf36 hf37 hR hl hO hP hD hS
        refine lv_iload_n hx hb dM_again_28 rfl (lv_at hl 0 rfl) ?_
        refine lv_aload_n hx hb dM_again_29 rfl (lv_at hl 1 rfl) ?_
        refine nw_get (C := "LatticeKeysModel") (TT := T_M) (N := 14) hx hb hts (wg_ft i_M) hown hK hO k_h0 (kn := 148) (ci := 8) (fl := [(0, 0), (0, 0), (0, 0), (0, 0), (3, 149), (3, 150), (3, 151), (3, 152), (3, 161), (3, 170), (3, 171), (3, 172), (3, 184), (3, 225)]) rfl hP rfl 2 (by decide) (hts _ (wg_t kw_1528)) (fun _ h9 => h9) (cd := (0, 0)) rfl dM_again_30 (fun v27 hv27 => ?_)
        obtain rfl := (show v27 = .int (s22.1 148 2) from hv27)
        obtain ⟨z27, ez27, hz33, hz34⟩ := cl_of (b := 2147483648) hf35 (by omega) (by decide)
        replace hR := bnd_step hR ez27
        refine mi_as hz33 ?_
        refine mi_ge (tgt := 59) hx hb dM_again_33 (by decide) (by omega) (by omega) (fun h23 => absurd h23 (by omega)) (fun h23 => ?_)
        refine lv_aload_n hx hb dM_again_36 rfl (lv_at hl 1 rfl) ?_
        refine nw_get (C := "LatticeKeysModel") (TT := T_M) (N := 14) hx hb hts (wg_ft i_M) hown hK hO k_h0 (kn := 148) (ci := 8) (fl := [(0, 0), (0, 0), (0, 0), (0, 0), (3, 149), (3, 150), (3, 151), (3, 152), (3, 161), (3, 170), (3, 171), (3, 172), (3, 184), (3, 225)]) rfl hP rfl 4 (by decide) (hts _ (wg_t kw_1530)) (fun _ h9 => h9) (cd := (3, 149)) rfl dM_again_37 (fun v28 hv28 => ?_)
        obtain ⟨r21, rfl, kr21⟩ := (show ∃ r : Nat, v28 = .ref r ∧ T r = some 149 from hv28)
        refine lv_aload_n hx hb dM_again_40 rfl (lv_at hl 1 rfl) ?_
        refine nw_get (C := "LatticeKeysModel") (TT := T_M) (N := 14) hx hb hts (wg_ft i_M) hown hK hO k_h0 (kn := 148) (ci := 8) (fl := [(0, 0), (0, 0), (0, 0), (0, 0), (3, 149), (3, 150), (3, 151), (3, 152), (3, 161), (3, 170), (3, 171), (3, 172), (3, 184), (3, 225)]) rfl hP rfl 1 (by decide) (hts _ (wg_t kw_1527)) (fun _ h9 => h9) (cd := (0, 0)) rfl dM_again_41 (fun v29 hv29 => ?_)
        obtain rfl := (show v29 = .int (s22.1 148 1) from hv29)
        obtain ⟨z28, ez28, hz35, hz36⟩ := cl_of (b := 2147483648) hf34 (by omega) (by decide)
        replace hR := bnd_step hR ez28
        refine mi_as hz35 ?_
        refine lv_iload_n hx hb dM_again_44 rfl (lv_at hl 0 rfl) ?_
        refine mi_iadd hx hb dM_again_45 ?_
        refine lv_aload_n hx hb dM_again_46 rfl (lv_at hl 1 rfl) ?_
        refine nw_get (C := "LatticeKeysModel") (TT := T_M) (N := 14) hx hb hts (wg_ft i_M) hown hK hO k_h0 (kn := 148) (ci := 8) (fl := [(0, 0), (0, 0), (0, 0), (0, 0), (3, 149), (3, 150), (3, 151), (3, 152), (3, 161), (3, 170), (3, 171), (3, 172), (3, 184), (3, 225)]) rfl hP rfl 5 (by decide) (hts _ (wg_t kw_1531)) (fun _ h9 => h9) (cd := (3, 150)) rfl dM_again_47 (fun v30 hv30 => ?_)
        obtain ⟨r22, rfl, kr22⟩ := (show ∃ r : Nat, v30 = .ref r ∧ T r = some 150 from hv30)
        refine lv_iload_n hx hb dM_again_50 rfl (lv_at hl 0 rfl) ?_
        refine nw_bald hx hb hK hO kr22 (k := 150) rfl hP (by omega) (by omega) dM_again_51 ?_
        refine nw_bast hx hb hK hO hU kr21 (k := 149) rfl hP hD hS (by omega) (by omega) dM_again_52 (fun s24 pl H locs es23 hO hP hD hS => ?_)
        replace hR := bnd_step hR es23
        have hF := frm_sB hF es23 (by unfold M_M_again; omega)
        have hf38 : s24.1 148 1 = nI tp := fc_B hf34 es23 (by omega)
        have hf39 : s24.1 148 2 = nI rs := fc_B hf35 es23 (by omega)
        have hf40 : s24.1 148 3 = nI ks := fc_B hf36 es23 (by omega)
        have hf41 : s24.1 148 0 = nI 0 := fc_B hf37 es23 (by omega)
        refine mi_iinc (k := 0) (x := i21) (d := 1) (y := i21 + 1) (lv' := [(1, .int (nI (i21 + 1))), (0, .ref h0)]) hx hb dM_again_53 hl rfl (by decide) rfl (by decide) rfl (fun ls hl => ?_)
        refine lv_goto (tgt := 28) hx hb dM_again_56 (by decide) ?_
        exact ih21 (i21 + 1) s24 pl ls H locs (by omega) hF hf38 hf39 hf40 hf41 hR (lv_sub hl [0, 1] rfl) hO hP hD hS
    exact lp21 z22 0 s21 pl ls _ _ (by omega) hF hf21 hf22 hf23 hf24 hR (lv_sub hl [0, 1] rfl) hO hP hD hS
  · replace hR := hR.trans (if_neg (Nat.not_le.mpr h21))
    refine lv_aload_n hx hb dM_again_20 rfl (lv_at hl 0 rfl) ?_
    refine lv_iconst (v := nI 1) hx hb dM_again_21 (by decide) ?_
    refine mp_i (cx := []) (wr := []) hP hD hS hA [] [] rfl rfl rfl (by decide) (va_runV (As := [.int (nI 1)]) (rest := []) F (N_M_fail l g _ T s21 pl hO hU h0 (nI 1) tp rs ks k_h0 hf21 hf22 hf23) (cwV 1 hts (wg_app (wg_c kw_1577 (wg_c kw_1579 (wg_c ks_50 (wg_c kw_9 wg_n)))) kw_1580) rfl rfl rfl (by decide +kernel) ⟨by decide, by decide⟩) (pn_W "LatticeKeysModel" (en_ok g) (ci := 8) (kn := 148) (fl := [(0, 0), (0, 0), (0, 0), (0, 0), (3, 149), (3, 150), (3, 151), (3, 152), (3, 161), (3, 170), (3, 171), (3, 172), (3, 184), (3, 225)]) hK hO k_h0 rfl hP hD hS hA hE [] rfl rfl rfl) rfl rfl hl.1 rfl (lv_room (Nat.le_of_ble_eq_true rfl)) dM_again_22 ⟨by omega, by omega⟩) (fun r23 u21 H locs hu21 hP hD hS => ?_)
    obtain ⟨q21, pl⟩ := u21
    obtain ⟨⟨eq21, rfl, hFc21, ⟨x21, hx_21, hb_21⟩, ⟨x22, hx_22, hb_22⟩, ⟨x23, hx_23, hb_23⟩, -⟩, hO⟩ := hu21
    have hO : okn g T q21.2 pl := hO
    have hP : va_P g.1 vcl ([] ++ pl) _ := hP
    have hD : va_D _ ([] ++ pl) := hD
    have hFc21 : frm (M_M_fail) s21 q21.2 := hFc21
    have hb_21 : x21 = tp := hb_21
    have hb_22 : x22 = rs := hb_22
    have hb_23 : x23 = ks := hb_23
    replace hR := bnd_step hR eq21
    have hF := frm_tr hF hFc21 (fun k hk => by unfold M_M_fail at hk; unfold M_M_again; omega)
    refine W.widen (k := 0) (n := 0) (by omega) (by omega) ?_
    exact mp_iret hx hb hr hlk hP hD hS ((q21.1, q21.2), pl) ⟨⟨hR.symm, rfl, hF, ⟨x21, hx_21, by omega⟩, ⟨x22, hx_22, by omega⟩, ⟨x23, hx_23, by omega⟩, trivial⟩, hO⟩ [] rfl rfl rfl (by omega) (by omega) dM_again_25
def M_M_end (k : Nat) : Prop := k = 148 ∨ (0 : Nat) = 1
noncomputable def F_M_end (v : Int32) (s : Sto) : Int32 × Sto := bnd (sI s 148 0 (nI 0)) fun s21 => if v < 0 then bnd (F_M_fail (nI 1) s21) fun q21 => (q21.1, q21.2) else bnd ((s21.1 148 1).toNatClampNeg) fun z21 => if v ≤ (nI z21) then bnd (v.toNatClampNeg) fun z22 => bnd (sI s21 148 1 (nI z22)) fun s22 => (nI z22, s22) else bnd (F_M_fail (nI 1) s21) fun q22 => (q22.1, q22.2)
set_option maxHeartbeats 8000000 in
set_option maxRecDepth 100000 in
theorem N_M_end (l : Launch) (g : Gd) (sz : Nat) (T : TyN) (s : Sto) (pl : va_W) (hO : okn g T s pl) (hU : inj T) (h0 : Nat) (v : Int32) (tp : Nat) (rs : Nat) (ks : Nat) (k_h0 : T h0 = some 148) (e_tp : s.1 148 1 = nI tp) (e_rs : s.1 148 2 = nI rs) (e_ks : s.1 148 3 = nI ks) (h1 : tp ≤ 16384) (h2 : rs ≤ 8192) (h3 : ks ≤ 8)  : Met l y_M_end w_M_end ({ frames := 1, cells := 0, slots := 0, locals := 21 } : Room) (va_Pc [.ref h0, .int v] (pr (en g) g.1 vcl sz ([] ++ pl))) (va_Qi (fun (r : Int32) (u : (Int32 × Sto) × va_W) => (u.1 = F_M_end v s ∧ r = u.1.1 ∧ frm (M_M_end) s u.1.2 ∧ (∃ x : Nat, u.1.2.1 148 1 = nI x ∧ x ≤ 16384) ∧ (∃ x : Nat, u.1.2.1 148 2 = nI x ∧ x ≤ 8192) ∧ (∃ x : Nat, u.1.2.1 148 3 = nI x ∧ x ≤ 8) ∧ True) ∧ okn g T u.1.2 u.2) (po g.1 vcl (va_A ([] ++ pl) sz) (fun (u : (Int32 × Sto) × va_W) => [] ++ u.2)) (va_A ([] ++ pl) sz)) 0 0 (va_A ([] ++ pl) sz) := by
  refine mc_entry (cc := c_M_end) (maxL := 2) (ret := (some .int)) (by decide) rfl (Nat.le_of_ble_eq_true rfl) ?_
  intro p e s0 m args below meth c ls F hr hlk hnm hsz hP hD hE hA hl
  obtain ⟨hx, hb, hml, hown, hts⟩ := id F
  have hK := hE.1
  generalize va_A ([] ++ pl) sz = A at hD hE hA ⊢
  have hS : va_S A s0.heap s0.heap [] := va_S.rf
  have hl : lv_has ls 2 [(0, .ref h0), (1, .int v)] := hl
  have hR : F_M_end v s = F_M_end v s := rfl
  have hF : frm (M_M_end) s s := frm_rf
  refine lv_aload_n hx hb dM_end_0 rfl (lv_at hl 0 rfl) ?_
  refine lv_iconst (v := nI 0) hx hb dM_end_1 (by decide) ?_
  refine nw_put (C := "LatticeKeysModel") (TT := T_M) (N := 14) hx hb hts (wg_ft i_M) ty_M k_M n_M hown hK hO hU k_h0 (kn := 148) (ci := 8) (fl := [(0, 0), (0, 0), (0, 0), (0, 0), (3, 149), (3, 150), (3, 151), (3, 152), (3, 161), (3, 170), (3, 171), (3, 172), (3, 184), (3, 225)]) rfl hP hD hS rfl 0 (by decide) (hts _ (wg_t kw_1526)) (fun _ h9 => h9) rfl (by decide +kernel) rfl dM_end_2 (fun s21 pl H locs es21 hO hP hD hS => ?_)
  replace hR := bnd_step hR es21
  have hF := frm_sI hF es21 (by unfold M_M_end; omega)
  have hf21 : s21.1 148 1 = nI tp := fc_ne e_tp es21 (by omega)
  have hf22 : s21.1 148 2 = nI rs := fc_ne e_rs es21 (by omega)
  have hf23 : s21.1 148 3 = nI ks := fc_ne e_ks es21 (by omega)
  have hf24 : s21.1 148 0 = nI 0 := fc_eq es21
  refine lv_iload_n hx hb dM_end_5 rfl (lv_at hl 1 rfl) ?_
  refine lv_if_lt (tgt := 17) hx hb dM_end_6 (by decide) (fun h21 => ?_) (fun h21 => ?_)
  · replace hR := hR.trans (if_pos h21)
    refine lv_aload_n hx hb dM_end_17 rfl (lv_at hl 0 rfl) ?_
    refine lv_iconst (v := nI 1) hx hb dM_end_18 (by decide) ?_
    refine mp_i (cx := []) (wr := []) hP hD hS hA [] [] rfl rfl rfl (by decide) (va_runV (As := [.int (nI 1)]) (rest := []) F (N_M_fail l g _ T s21 pl hO hU h0 (nI 1) tp rs ks k_h0 hf21 hf22 hf23) (cwV 1 hts (wg_app (wg_c kw_1577 (wg_c kw_1579 (wg_c ks_50 (wg_c kw_9 wg_n)))) kw_1580) rfl rfl rfl (by decide +kernel) ⟨by decide, by decide⟩) (pn_W "LatticeKeysModel" (en_ok g) (ci := 8) (kn := 148) (fl := [(0, 0), (0, 0), (0, 0), (0, 0), (3, 149), (3, 150), (3, 151), (3, 152), (3, 161), (3, 170), (3, 171), (3, 172), (3, 184), (3, 225)]) hK hO k_h0 rfl hP hD hS hA hE [] rfl rfl rfl) rfl rfl hl.1 rfl (lv_room (Nat.le_of_ble_eq_true rfl)) dM_end_19 ⟨by omega, by omega⟩) (fun r21 u21 H locs hu21 hP hD hS => ?_)
    obtain ⟨q21, pl⟩ := u21
    obtain ⟨⟨eq21, rfl, hFc21, ⟨x21, hx_21, hb_21⟩, ⟨x22, hx_22, hb_22⟩, ⟨x23, hx_23, hb_23⟩, -⟩, hO⟩ := hu21
    have hO : okn g T q21.2 pl := hO
    have hP : va_P g.1 vcl ([] ++ pl) _ := hP
    have hD : va_D _ ([] ++ pl) := hD
    have hFc21 : frm (M_M_fail) s21 q21.2 := hFc21
    have hb_21 : x21 = tp := hb_21
    have hb_22 : x22 = rs := hb_22
    have hb_23 : x23 = ks := hb_23
    replace hR := bnd_step hR eq21
    have hF := frm_tr hF hFc21 (fun k hk => by unfold M_M_fail at hk; unfold M_M_end; omega)
    refine W.widen (k := 0) (n := 0) (by omega) (by omega) ?_
    exact mp_iret hx hb hr hlk hP hD hS ((q21.1, q21.2), pl) ⟨⟨hR.symm, rfl, hF, ⟨x21, hx_21, by omega⟩, ⟨x22, hx_22, by omega⟩, ⟨x23, hx_23, by omega⟩, trivial⟩, hO⟩ [] rfl rfl rfl (by omega) (by omega) dM_end_22
  · replace hR := hR.trans (if_neg h21)
    refine lv_iload_n hx hb dM_end_9 rfl (lv_at hl 1 rfl) ?_
    refine lv_aload_n hx hb dM_end_10 rfl (lv_at hl 0 rfl) ?_
    refine nw_get (C := "LatticeKeysModel") (TT := T_M) (N := 14) hx hb hts (wg_ft i_M) hown hK hO k_h0 (kn := 148) (ci := 8) (fl := [(0, 0), (0, 0), (0, 0), (0, 0), (3, 149), (3, 150), (3, 151), (3, 152), (3, 161), (3, 170), (3, 171), (3, 172), (3, 184), (3, 225)]) rfl hP rfl 1 (by decide) (hts _ (wg_t kw_1527)) (fun _ h9 => h9) (cd := (0, 0)) rfl dM_end_11 (fun v21 hv21 => ?_)
    obtain rfl := (show v21 = .int (s21.1 148 1) from hv21)
    obtain ⟨z21, ez21, hz21, hz22⟩ := cl_of (b := 2147483648) hf21 (by omega) (by decide)
    replace hR := bnd_step hR ez21
    refine mi_as hz21 ?_
    refine lv_icmp_le (tgt := 23) hx hb dM_end_14 (by decide) (fun h22 => ?_) (fun h22 => ?_)
    · replace hR := hR.trans (if_pos h22)
      obtain ⟨z22, hz23, hv22⟩ := i32_le h21 (by omega) h22
      have ez22 : z22 = v.toNatClampNeg := by rw [hv22]; exact (nI_clamp (by omega)).symm
      replace hR := bnd_step hR ez22
      rw [hv22] at hl
      refine lv_aload_n hx hb dM_end_23 rfl (lv_at hl 0 rfl) ?_
      refine lv_iload_n hx hb dM_end_24 rfl (lv_at hl 1 rfl) ?_
      refine nw_put (C := "LatticeKeysModel") (TT := T_M) (N := 14) hx hb hts (wg_ft i_M) ty_M k_M n_M hown hK hO hU k_h0 (kn := 148) (ci := 8) (fl := [(0, 0), (0, 0), (0, 0), (0, 0), (3, 149), (3, 150), (3, 151), (3, 152), (3, 161), (3, 170), (3, 171), (3, 172), (3, 184), (3, 225)]) rfl hP hD hS rfl 1 (by decide) (hts _ (wg_t kw_1527)) (fun _ h9 => h9) rfl (by decide +kernel) rfl dM_end_25 (fun s22 pl H locs es22 hO hP hD hS => ?_)
      replace hR := bnd_step hR es22
      have hF := frm_sI hF es22 (by unfold M_M_end; omega)
      have hf26 : s22.1 148 2 = nI rs := fc_ne hf22 es22 (by omega)
      have hf27 : s22.1 148 3 = nI ks := fc_ne hf23 es22 (by omega)
      have hf28 : s22.1 148 0 = nI 0 := fc_ne hf24 es22 (by omega)
      have hf29 : s22.1 148 1 = nI z22 := fc_eq es22
      refine lv_iload_n hx hb dM_end_28 rfl (lv_at hl 1 rfl) ?_
      exact mp_iret hx hb hr hlk hP hD hS ((nI z22, s22), pl) ⟨⟨hR.symm, rfl, hF, ⟨z22, hf29, by omega⟩, ⟨rs, hf26, by omega⟩, ⟨ks, hf27, by omega⟩, trivial⟩, hO⟩ [] rfl rfl rfl (by omega) (by omega) dM_end_29
    · replace hR := hR.trans (if_neg h22)
      refine lv_aload_n hx hb dM_end_17 rfl (lv_at hl 0 rfl) ?_
      refine lv_iconst (v := nI 1) hx hb dM_end_18 (by decide) ?_
      refine mp_i (cx := []) (wr := []) hP hD hS hA [] [] rfl rfl rfl (by decide) (va_runV (As := [.int (nI 1)]) (rest := []) F (N_M_fail l g _ T s21 pl hO hU h0 (nI 1) tp rs ks k_h0 hf21 hf22 hf23) (cwV 1 hts (wg_app (wg_c kw_1577 (wg_c kw_1579 (wg_c ks_50 (wg_c kw_9 wg_n)))) kw_1580) rfl rfl rfl (by decide +kernel) ⟨by decide, by decide⟩) (pn_W "LatticeKeysModel" (en_ok g) (ci := 8) (kn := 148) (fl := [(0, 0), (0, 0), (0, 0), (0, 0), (3, 149), (3, 150), (3, 151), (3, 152), (3, 161), (3, 170), (3, 171), (3, 172), (3, 184), (3, 225)]) hK hO k_h0 rfl hP hD hS hA hE [] rfl rfl rfl) rfl rfl hl.1 rfl (lv_room (Nat.le_of_ble_eq_true rfl)) dM_end_19 ⟨by omega, by omega⟩) (fun r22 u22 H locs hu22 hP hD hS => ?_)
      obtain ⟨q22, pl⟩ := u22
      obtain ⟨⟨eq22, rfl, hFc22, ⟨x25, hx_25, hb_25⟩, ⟨x26, hx_26, hb_26⟩, ⟨x27, hx_27, hb_27⟩, -⟩, hO⟩ := hu22
      have hO : okn g T q22.2 pl := hO
      have hP : va_P g.1 vcl ([] ++ pl) _ := hP
      have hD : va_D _ ([] ++ pl) := hD
      have hFc22 : frm (M_M_fail) s21 q22.2 := hFc22
      have hb_25 : x25 = tp := hb_25
      have hb_26 : x26 = rs := hb_26
      have hb_27 : x27 = ks := hb_27
      replace hR := bnd_step hR eq22
      have hF := frm_tr hF hFc22 (fun k hk => by unfold M_M_fail at hk; unfold M_M_end; omega)
      refine W.widen (k := 0) (n := 0) (by omega) (by omega) ?_
      exact mp_iret hx hb hr hlk hP hD hS ((q22.1, q22.2), pl) ⟨⟨hR.symm, rfl, hF, ⟨x25, hx_25, by omega⟩, ⟨x26, hx_26, by omega⟩, ⟨x27, hx_27, by omega⟩, trivial⟩, hO⟩ [] rfl rfl rfl (by omega) (by omega) dM_end_22
def M_M_alter (k : Nat) : Prop := k = 148 ∨ k = 149 ∨ (0 : Nat) = 1
noncomputable def F_M_alter (v : Int32) (v2 : Int32) (s : Sto) : Int32 × Sto := bnd (sI s 148 0 (nI 0)) fun s21 => if v < 0 then bnd (F_M_fail (nI 1) s21) fun q21 => (q21.1, q21.2) else bnd ((s21.1 148 1).toNatClampNeg) fun z21 => if v < (nI z21) then bnd (v.toNatClampNeg) fun z22 => bnd (sB s21 149 z22 (((s21.1 149 z22) ^^^ (v2.toInt8.toInt32)).toInt8.toInt32)) fun s22 => (((s22.1 149 z22) &&& (nI 255)), s22) else bnd (F_M_fail (nI 1) s21) fun q22 => (q22.1, q22.2)
set_option maxHeartbeats 8000000 in
set_option maxRecDepth 100000 in
theorem N_M_alter (l : Launch) (g : Gd) (sz : Nat) (T : TyN) (s : Sto) (pl : va_W) (hO : okn g T s pl) (hU : inj T) (h0 : Nat) (v : Int32) (v2 : Int32) (tp : Nat) (rs : Nat) (ks : Nat) (k_h0 : T h0 = some 148) (e_tp : s.1 148 1 = nI tp) (e_rs : s.1 148 2 = nI rs) (e_ks : s.1 148 3 = nI ks) (h1 : tp ≤ 16384) (h2 : rs ≤ 8192) (h3 : ks ≤ 8)  : Met l y_M_alter w_M_alter ({ frames := 1, cells := 0, slots := 0, locals := 21 } : Room) (va_Pc [.ref h0, .int v, .int v2] (pr (en g) g.1 vcl sz ([] ++ pl))) (va_Qi (fun (r : Int32) (u : (Int32 × Sto) × va_W) => (u.1 = F_M_alter v v2 s ∧ r = u.1.1 ∧ frm (M_M_alter) s u.1.2 ∧ (∃ x : Nat, u.1.2.1 148 1 = nI x ∧ x ≤ 16384) ∧ (∃ x : Nat, u.1.2.1 148 2 = nI x ∧ x ≤ 8192) ∧ (∃ x : Nat, u.1.2.1 148 3 = nI x ∧ x ≤ 8) ∧ True) ∧ okn g T u.1.2 u.2) (po g.1 vcl (va_A ([] ++ pl) sz) (fun (u : (Int32 × Sto) × va_W) => [] ++ u.2)) (va_A ([] ++ pl) sz)) 0 0 (va_A ([] ++ pl) sz) := by
  refine mc_entry (cc := c_M_alter) (maxL := 3) (ret := (some .int)) (by decide) rfl (Nat.le_of_ble_eq_true rfl) ?_
  intro p e s0 m args below meth c ls F hr hlk hnm hsz hP hD hE hA hl
  obtain ⟨hx, hb, hml, hown, hts⟩ := id F
  have hK := hE.1
  generalize va_A ([] ++ pl) sz = A at hD hE hA ⊢
  have hS : va_S A s0.heap s0.heap [] := va_S.rf
  have hl : lv_has ls 3 [(0, .ref h0), (1, .int v), (2, .int v2)] := hl
  have hR : F_M_alter v v2 s = F_M_alter v v2 s := rfl
  have hF : frm (M_M_alter) s s := frm_rf
  refine lv_aload_n hx hb dM_alter_0 rfl (lv_at hl 0 rfl) ?_
  refine lv_iconst (v := nI 0) hx hb dM_alter_1 (by decide) ?_
  refine nw_put (C := "LatticeKeysModel") (TT := T_M) (N := 14) hx hb hts (wg_ft i_M) ty_M k_M n_M hown hK hO hU k_h0 (kn := 148) (ci := 8) (fl := [(0, 0), (0, 0), (0, 0), (0, 0), (3, 149), (3, 150), (3, 151), (3, 152), (3, 161), (3, 170), (3, 171), (3, 172), (3, 184), (3, 225)]) rfl hP hD hS rfl 0 (by decide) (hts _ (wg_t kw_1526)) (fun _ h9 => h9) rfl (by decide +kernel) rfl dM_alter_2 (fun s21 pl H locs es21 hO hP hD hS => ?_)
  replace hR := bnd_step hR es21
  have hF := frm_sI hF es21 (by unfold M_M_alter; omega)
  have hf21 : s21.1 148 1 = nI tp := fc_ne e_tp es21 (by omega)
  have hf22 : s21.1 148 2 = nI rs := fc_ne e_rs es21 (by omega)
  have hf23 : s21.1 148 3 = nI ks := fc_ne e_ks es21 (by omega)
  have hf24 : s21.1 148 0 = nI 0 := fc_eq es21
  refine lv_iload_n hx hb dM_alter_5 rfl (lv_at hl 1 rfl) ?_
  refine lv_if_lt (tgt := 17) hx hb dM_alter_6 (by decide) (fun h21 => ?_) (fun h21 => ?_)
  · replace hR := hR.trans (if_pos h21)
    refine lv_aload_n hx hb dM_alter_17 rfl (lv_at hl 0 rfl) ?_
    refine lv_iconst (v := nI 1) hx hb dM_alter_18 (by decide) ?_
    refine mp_i (cx := []) (wr := []) hP hD hS hA [] [] rfl rfl rfl (by decide) (va_runV (As := [.int (nI 1)]) (rest := []) F (N_M_fail l g _ T s21 pl hO hU h0 (nI 1) tp rs ks k_h0 hf21 hf22 hf23) (cwV 1 hts (wg_app (wg_c kw_1577 (wg_c kw_1579 (wg_c ks_50 (wg_c kw_9 wg_n)))) kw_1580) rfl rfl rfl (by decide +kernel) ⟨by decide, by decide⟩) (pn_W "LatticeKeysModel" (en_ok g) (ci := 8) (kn := 148) (fl := [(0, 0), (0, 0), (0, 0), (0, 0), (3, 149), (3, 150), (3, 151), (3, 152), (3, 161), (3, 170), (3, 171), (3, 172), (3, 184), (3, 225)]) hK hO k_h0 rfl hP hD hS hA hE [] rfl rfl rfl) rfl rfl hl.1 rfl (lv_room (Nat.le_of_ble_eq_true rfl)) dM_alter_19 ⟨by omega, by omega⟩) (fun r21 u21 H locs hu21 hP hD hS => ?_)
    obtain ⟨q21, pl⟩ := u21
    obtain ⟨⟨eq21, rfl, hFc21, ⟨x21, hx_21, hb_21⟩, ⟨x22, hx_22, hb_22⟩, ⟨x23, hx_23, hb_23⟩, -⟩, hO⟩ := hu21
    have hO : okn g T q21.2 pl := hO
    have hP : va_P g.1 vcl ([] ++ pl) _ := hP
    have hD : va_D _ ([] ++ pl) := hD
    have hFc21 : frm (M_M_fail) s21 q21.2 := hFc21
    have hb_21 : x21 = tp := hb_21
    have hb_22 : x22 = rs := hb_22
    have hb_23 : x23 = ks := hb_23
    replace hR := bnd_step hR eq21
    have hF := frm_tr hF hFc21 (fun k hk => by unfold M_M_fail at hk; unfold M_M_alter; omega)
    refine W.widen (k := 0) (n := 0) (by omega) (by omega) ?_
    exact mp_iret hx hb hr hlk hP hD hS ((q21.1, q21.2), pl) ⟨⟨hR.symm, rfl, hF, ⟨x21, hx_21, by omega⟩, ⟨x22, hx_22, by omega⟩, ⟨x23, hx_23, by omega⟩, trivial⟩, hO⟩ [] rfl rfl rfl (by omega) (by omega) dM_alter_22
  · replace hR := hR.trans (if_neg h21)
    refine lv_iload_n hx hb dM_alter_9 rfl (lv_at hl 1 rfl) ?_
    refine lv_aload_n hx hb dM_alter_10 rfl (lv_at hl 0 rfl) ?_
    refine nw_get (C := "LatticeKeysModel") (TT := T_M) (N := 14) hx hb hts (wg_ft i_M) hown hK hO k_h0 (kn := 148) (ci := 8) (fl := [(0, 0), (0, 0), (0, 0), (0, 0), (3, 149), (3, 150), (3, 151), (3, 152), (3, 161), (3, 170), (3, 171), (3, 172), (3, 184), (3, 225)]) rfl hP rfl 1 (by decide) (hts _ (wg_t kw_1527)) (fun _ h9 => h9) (cd := (0, 0)) rfl dM_alter_11 (fun v21 hv21 => ?_)
    obtain rfl := (show v21 = .int (s21.1 148 1) from hv21)
    obtain ⟨z21, ez21, hz21, hz22⟩ := cl_of (b := 2147483648) hf21 (by omega) (by decide)
    replace hR := bnd_step hR ez21
    refine mi_as hz21 ?_
    refine lv_icmp_lt (tgt := 23) hx hb dM_alter_14 (by decide) (fun h22 => ?_) (fun h22 => ?_)
    · replace hR := hR.trans (if_pos h22)
      obtain ⟨z22, hz23, hv22⟩ := i32_ltc h21 (by omega) h22
      have ez22 : z22 = v.toNatClampNeg := by rw [hv22]; exact (nI_clamp (by omega)).symm
      replace hR := bnd_step hR ez22
      rw [hv22] at hl
      refine lv_aload_n hx hb dM_alter_23 rfl (lv_at hl 0 rfl) ?_
      refine nw_get (C := "LatticeKeysModel") (TT := T_M) (N := 14) hx hb hts (wg_ft i_M) hown hK hO k_h0 (kn := 148) (ci := 8) (fl := [(0, 0), (0, 0), (0, 0), (0, 0), (3, 149), (3, 150), (3, 151), (3, 152), (3, 161), (3, 170), (3, 171), (3, 172), (3, 184), (3, 225)]) rfl hP rfl 4 (by decide) (hts _ (wg_t kw_1530)) (fun _ h9 => h9) (cd := (3, 149)) rfl dM_alter_24 (fun v22 hv23 => ?_)
      obtain ⟨r22, rfl, kr21⟩ := (show ∃ r : Nat, v22 = .ref r ∧ T r = some 149 from hv23)
      refine lv_iload_n hx hb dM_alter_27 rfl (lv_at hl 1 rfl) ?_
      refine lv_dup2_11 hx hb dM_alter_28 rfl rfl ?_
      refine nw_bald hx hb hK hO kr21 (k := 149) rfl hP (by omega) (by omega) dM_alter_29 ?_
      refine lv_iload_n hx hb dM_alter_30 rfl (lv_at hl 2 rfl) ?_
      refine lv_i2b hx hb dM_alter_31 rfl ?_
      refine lv_ixor hx hb dM_alter_32 ?_
      refine lv_i2b hx hb dM_alter_33 rfl ?_
      refine nw_bast hx hb hK hO hU kr21 (k := 149) rfl hP hD hS (by omega) (by omega) dM_alter_34 (fun s22 pl H locs es22 hO hP hD hS => ?_)
      replace hR := bnd_step hR es22
      have hF := frm_sB hF es22 (by unfold M_M_alter; omega)
      have hf25 : s22.1 148 1 = nI tp := fc_B hf21 es22 (by omega)
      have hf26 : s22.1 148 2 = nI rs := fc_B hf22 es22 (by omega)
      have hf27 : s22.1 148 3 = nI ks := fc_B hf23 es22 (by omega)
      have hf28 : s22.1 148 0 = nI 0 := fc_B hf24 es22 (by omega)
      refine lv_aload_n hx hb dM_alter_35 rfl (lv_at hl 0 rfl) ?_
      refine nw_get (C := "LatticeKeysModel") (TT := T_M) (N := 14) hx hb hts (wg_ft i_M) hown hK hO k_h0 (kn := 148) (ci := 8) (fl := [(0, 0), (0, 0), (0, 0), (0, 0), (3, 149), (3, 150), (3, 151), (3, 152), (3, 161), (3, 170), (3, 171), (3, 172), (3, 184), (3, 225)]) rfl hP rfl 4 (by decide) (hts _ (wg_t kw_1530)) (fun _ h9 => h9) (cd := (3, 149)) rfl dM_alter_36 (fun v23 hv24 => ?_)
      obtain ⟨r23, rfl, kr22⟩ := (show ∃ r : Nat, v23 = .ref r ∧ T r = some 149 from hv24)
      refine lv_iload_n hx hb dM_alter_39 rfl (lv_at hl 1 rfl) ?_
      refine nw_bald hx hb hK hO kr22 (k := 149) rfl hP (by omega) (by omega) dM_alter_40 ?_
      refine lv_sipush (v := nI 255) hx hb dM_alter_41 (by decide) ?_
      refine lv_iand hx hb dM_alter_44 ?_
      exact mp_iret hx hb hr hlk hP hD hS ((((s22.1 149 z22) &&& (nI 255)), s22), pl) ⟨⟨hR.symm, rfl, hF, ⟨tp, hf25, by omega⟩, ⟨rs, hf26, by omega⟩, ⟨ks, hf27, by omega⟩, trivial⟩, hO⟩ [] rfl rfl rfl (by omega) (by omega) dM_alter_45
    · replace hR := hR.trans (if_neg h22)
      refine lv_aload_n hx hb dM_alter_17 rfl (lv_at hl 0 rfl) ?_
      refine lv_iconst (v := nI 1) hx hb dM_alter_18 (by decide) ?_
      refine mp_i (cx := []) (wr := []) hP hD hS hA [] [] rfl rfl rfl (by decide) (va_runV (As := [.int (nI 1)]) (rest := []) F (N_M_fail l g _ T s21 pl hO hU h0 (nI 1) tp rs ks k_h0 hf21 hf22 hf23) (cwV 1 hts (wg_app (wg_c kw_1577 (wg_c kw_1579 (wg_c ks_50 (wg_c kw_9 wg_n)))) kw_1580) rfl rfl rfl (by decide +kernel) ⟨by decide, by decide⟩) (pn_W "LatticeKeysModel" (en_ok g) (ci := 8) (kn := 148) (fl := [(0, 0), (0, 0), (0, 0), (0, 0), (3, 149), (3, 150), (3, 151), (3, 152), (3, 161), (3, 170), (3, 171), (3, 172), (3, 184), (3, 225)]) hK hO k_h0 rfl hP hD hS hA hE [] rfl rfl rfl) rfl rfl hl.1 rfl (lv_room (Nat.le_of_ble_eq_true rfl)) dM_alter_19 ⟨by omega, by omega⟩) (fun r24 u22 H locs hu22 hP hD hS => ?_)
      obtain ⟨q22, pl⟩ := u22
      obtain ⟨⟨eq22, rfl, hFc22, ⟨x25, hx_25, hb_25⟩, ⟨x26, hx_26, hb_26⟩, ⟨x27, hx_27, hb_27⟩, -⟩, hO⟩ := hu22
      have hO : okn g T q22.2 pl := hO
      have hP : va_P g.1 vcl ([] ++ pl) _ := hP
      have hD : va_D _ ([] ++ pl) := hD
      have hFc22 : frm (M_M_fail) s21 q22.2 := hFc22
      have hb_25 : x25 = tp := hb_25
      have hb_26 : x26 = rs := hb_26
      have hb_27 : x27 = ks := hb_27
      replace hR := bnd_step hR eq22
      have hF := frm_tr hF hFc22 (fun k hk => by unfold M_M_fail at hk; unfold M_M_alter; omega)
      refine W.widen (k := 0) (n := 0) (by omega) (by omega) ?_
      exact mp_iret hx hb hr hlk hP hD hS ((q22.1, q22.2), pl) ⟨⟨hR.symm, rfl, hF, ⟨x25, hx_25, by omega⟩, ⟨x26, hx_26, by omega⟩, ⟨x27, hx_27, by omega⟩, trivial⟩, hO⟩ [] rfl rfl rfl (by omega) (by omega) dM_alter_22
def M_M_result (k : Nat) : Prop := k = 148 ∨ (0 : Nat) = 1
noncomputable def F_M_result (v : Int32) (s : Sto) : Int32 × Sto := bnd (sI s 148 0 (nI 0)) fun s21 => if v < 0 then bnd (F_M_fail (nI 1) s21) fun q21 => (q21.1, q21.2) else bnd ((s21.1 148 2).toNatClampNeg) fun z21 => if v < (nI z21) then bnd (v.toNatClampNeg) fun z22 => (((s21.1 150 z22) &&& (nI 255)), s21) else bnd (F_M_fail (nI 1) s21) fun q22 => (q22.1, q22.2)
set_option maxHeartbeats 8000000 in
set_option maxRecDepth 100000 in
theorem N_M_result (l : Launch) (g : Gd) (sz : Nat) (T : TyN) (s : Sto) (pl : va_W) (hO : okn g T s pl) (hU : inj T) (h0 : Nat) (v : Int32) (tp : Nat) (rs : Nat) (ks : Nat) (k_h0 : T h0 = some 148) (e_tp : s.1 148 1 = nI tp) (e_rs : s.1 148 2 = nI rs) (e_ks : s.1 148 3 = nI ks) (h1 : tp ≤ 16384) (h2 : rs ≤ 8192) (h3 : ks ≤ 8)  : Met l y_M_result w_M_result ({ frames := 1, cells := 0, slots := 0, locals := 21 } : Room) (va_Pc [.ref h0, .int v] (pr (en g) g.1 vcl sz ([] ++ pl))) (va_Qi (fun (r : Int32) (u : (Int32 × Sto) × va_W) => (u.1 = F_M_result v s ∧ r = u.1.1 ∧ frm (M_M_result) s u.1.2 ∧ (∃ x : Nat, u.1.2.1 148 1 = nI x ∧ x ≤ 16384) ∧ (∃ x : Nat, u.1.2.1 148 2 = nI x ∧ x ≤ 8192) ∧ (∃ x : Nat, u.1.2.1 148 3 = nI x ∧ x ≤ 8) ∧ True) ∧ okn g T u.1.2 u.2) (po g.1 vcl (va_A ([] ++ pl) sz) (fun (u : (Int32 × Sto) × va_W) => [] ++ u.2)) (va_A ([] ++ pl) sz)) 0 0 (va_A ([] ++ pl) sz) := by
  refine mc_entry (cc := c_M_result) (maxL := 2) (ret := (some .int)) (by decide) rfl (Nat.le_of_ble_eq_true rfl) ?_
  intro p e s0 m args below meth c ls F hr hlk hnm hsz hP hD hE hA hl
  obtain ⟨hx, hb, hml, hown, hts⟩ := id F
  have hK := hE.1
  generalize va_A ([] ++ pl) sz = A at hD hE hA ⊢
  have hS : va_S A s0.heap s0.heap [] := va_S.rf
  have hl : lv_has ls 2 [(0, .ref h0), (1, .int v)] := hl
  have hR : F_M_result v s = F_M_result v s := rfl
  have hF : frm (M_M_result) s s := frm_rf
  refine lv_aload_n hx hb dM_result_0 rfl (lv_at hl 0 rfl) ?_
  refine lv_iconst (v := nI 0) hx hb dM_result_1 (by decide) ?_
  refine nw_put (C := "LatticeKeysModel") (TT := T_M) (N := 14) hx hb hts (wg_ft i_M) ty_M k_M n_M hown hK hO hU k_h0 (kn := 148) (ci := 8) (fl := [(0, 0), (0, 0), (0, 0), (0, 0), (3, 149), (3, 150), (3, 151), (3, 152), (3, 161), (3, 170), (3, 171), (3, 172), (3, 184), (3, 225)]) rfl hP hD hS rfl 0 (by decide) (hts _ (wg_t kw_1526)) (fun _ h9 => h9) rfl (by decide +kernel) rfl dM_result_2 (fun s21 pl H locs es21 hO hP hD hS => ?_)
  replace hR := bnd_step hR es21
  have hF := frm_sI hF es21 (by unfold M_M_result; omega)
  have hf21 : s21.1 148 1 = nI tp := fc_ne e_tp es21 (by omega)
  have hf22 : s21.1 148 2 = nI rs := fc_ne e_rs es21 (by omega)
  have hf23 : s21.1 148 3 = nI ks := fc_ne e_ks es21 (by omega)
  have hf24 : s21.1 148 0 = nI 0 := fc_eq es21
  refine lv_iload_n hx hb dM_result_5 rfl (lv_at hl 1 rfl) ?_
  refine lv_if_lt (tgt := 17) hx hb dM_result_6 (by decide) (fun h21 => ?_) (fun h21 => ?_)
  · replace hR := hR.trans (if_pos h21)
    refine lv_aload_n hx hb dM_result_17 rfl (lv_at hl 0 rfl) ?_
    refine lv_iconst (v := nI 1) hx hb dM_result_18 (by decide) ?_
    refine mp_i (cx := []) (wr := []) hP hD hS hA [] [] rfl rfl rfl (by decide) (va_runV (As := [.int (nI 1)]) (rest := []) F (N_M_fail l g _ T s21 pl hO hU h0 (nI 1) tp rs ks k_h0 hf21 hf22 hf23) (cwV 1 hts (wg_app (wg_c kw_1577 (wg_c kw_1579 (wg_c ks_50 (wg_c kw_9 wg_n)))) kw_1580) rfl rfl rfl (by decide +kernel) ⟨by decide, by decide⟩) (pn_W "LatticeKeysModel" (en_ok g) (ci := 8) (kn := 148) (fl := [(0, 0), (0, 0), (0, 0), (0, 0), (3, 149), (3, 150), (3, 151), (3, 152), (3, 161), (3, 170), (3, 171), (3, 172), (3, 184), (3, 225)]) hK hO k_h0 rfl hP hD hS hA hE [] rfl rfl rfl) rfl rfl hl.1 rfl (lv_room (Nat.le_of_ble_eq_true rfl)) dM_result_19 ⟨by omega, by omega⟩) (fun r21 u21 H locs hu21 hP hD hS => ?_)
    obtain ⟨q21, pl⟩ := u21
    obtain ⟨⟨eq21, rfl, hFc21, ⟨x21, hx_21, hb_21⟩, ⟨x22, hx_22, hb_22⟩, ⟨x23, hx_23, hb_23⟩, -⟩, hO⟩ := hu21
    have hO : okn g T q21.2 pl := hO
    have hP : va_P g.1 vcl ([] ++ pl) _ := hP
    have hD : va_D _ ([] ++ pl) := hD
    have hFc21 : frm (M_M_fail) s21 q21.2 := hFc21
    have hb_21 : x21 = tp := hb_21
    have hb_22 : x22 = rs := hb_22
    have hb_23 : x23 = ks := hb_23
    replace hR := bnd_step hR eq21
    have hF := frm_tr hF hFc21 (fun k hk => by unfold M_M_fail at hk; unfold M_M_result; omega)
    refine W.widen (k := 0) (n := 0) (by omega) (by omega) ?_
    refine lv_goto (tgt := 35) hx hb dM_result_22 (by decide) ?_
    exact mp_iret hx hb hr hlk hP hD hS ((q21.1, q21.2), pl) ⟨⟨hR.symm, rfl, hF, ⟨x21, hx_21, by omega⟩, ⟨x22, hx_22, by omega⟩, ⟨x23, hx_23, by omega⟩, trivial⟩, hO⟩ [] rfl rfl rfl (by omega) (by omega) dM_result_35
  · replace hR := hR.trans (if_neg h21)
    refine lv_iload_n hx hb dM_result_9 rfl (lv_at hl 1 rfl) ?_
    refine lv_aload_n hx hb dM_result_10 rfl (lv_at hl 0 rfl) ?_
    refine nw_get (C := "LatticeKeysModel") (TT := T_M) (N := 14) hx hb hts (wg_ft i_M) hown hK hO k_h0 (kn := 148) (ci := 8) (fl := [(0, 0), (0, 0), (0, 0), (0, 0), (3, 149), (3, 150), (3, 151), (3, 152), (3, 161), (3, 170), (3, 171), (3, 172), (3, 184), (3, 225)]) rfl hP rfl 2 (by decide) (hts _ (wg_t kw_1528)) (fun _ h9 => h9) (cd := (0, 0)) rfl dM_result_11 (fun v21 hv21 => ?_)
    obtain rfl := (show v21 = .int (s21.1 148 2) from hv21)
    obtain ⟨z21, ez21, hz21, hz22⟩ := cl_of (b := 2147483648) hf22 (by omega) (by decide)
    replace hR := bnd_step hR ez21
    refine mi_as hz21 ?_
    refine lv_icmp_lt (tgt := 25) hx hb dM_result_14 (by decide) (fun h22 => ?_) (fun h22 => ?_)
    · replace hR := hR.trans (if_pos h22)
      obtain ⟨z22, hz23, hv22⟩ := i32_ltc h21 (by omega) h22
      have ez22 : z22 = v.toNatClampNeg := by rw [hv22]; exact (nI_clamp (by omega)).symm
      replace hR := bnd_step hR ez22
      rw [hv22] at hl
      refine lv_aload_n hx hb dM_result_25 rfl (lv_at hl 0 rfl) ?_
      refine nw_get (C := "LatticeKeysModel") (TT := T_M) (N := 14) hx hb hts (wg_ft i_M) hown hK hO k_h0 (kn := 148) (ci := 8) (fl := [(0, 0), (0, 0), (0, 0), (0, 0), (3, 149), (3, 150), (3, 151), (3, 152), (3, 161), (3, 170), (3, 171), (3, 172), (3, 184), (3, 225)]) rfl hP rfl 5 (by decide) (hts _ (wg_t kw_1531)) (fun _ h9 => h9) (cd := (3, 150)) rfl dM_result_26 (fun v22 hv23 => ?_)
      obtain ⟨r22, rfl, kr21⟩ := (show ∃ r : Nat, v22 = .ref r ∧ T r = some 150 from hv23)
      refine lv_iload_n hx hb dM_result_29 rfl (lv_at hl 1 rfl) ?_
      refine nw_bald hx hb hK hO kr21 (k := 150) rfl hP (by omega) (by omega) dM_result_30 ?_
      refine lv_sipush (v := nI 255) hx hb dM_result_31 (by decide) ?_
      refine lv_iand hx hb dM_result_34 ?_
      exact mp_iret hx hb hr hlk hP hD hS ((((s21.1 150 z22) &&& (nI 255)), s21), pl) ⟨⟨hR.symm, rfl, hF, ⟨tp, hf21, by omega⟩, ⟨rs, hf22, by omega⟩, ⟨ks, hf23, by omega⟩, trivial⟩, hO⟩ [] rfl rfl rfl (by omega) (by omega) dM_result_35
    · replace hR := hR.trans (if_neg h22)
      refine lv_aload_n hx hb dM_result_17 rfl (lv_at hl 0 rfl) ?_
      refine lv_iconst (v := nI 1) hx hb dM_result_18 (by decide) ?_
      refine mp_i (cx := []) (wr := []) hP hD hS hA [] [] rfl rfl rfl (by decide) (va_runV (As := [.int (nI 1)]) (rest := []) F (N_M_fail l g _ T s21 pl hO hU h0 (nI 1) tp rs ks k_h0 hf21 hf22 hf23) (cwV 1 hts (wg_app (wg_c kw_1577 (wg_c kw_1579 (wg_c ks_50 (wg_c kw_9 wg_n)))) kw_1580) rfl rfl rfl (by decide +kernel) ⟨by decide, by decide⟩) (pn_W "LatticeKeysModel" (en_ok g) (ci := 8) (kn := 148) (fl := [(0, 0), (0, 0), (0, 0), (0, 0), (3, 149), (3, 150), (3, 151), (3, 152), (3, 161), (3, 170), (3, 171), (3, 172), (3, 184), (3, 225)]) hK hO k_h0 rfl hP hD hS hA hE [] rfl rfl rfl) rfl rfl hl.1 rfl (lv_room (Nat.le_of_ble_eq_true rfl)) dM_result_19 ⟨by omega, by omega⟩) (fun r23 u22 H locs hu22 hP hD hS => ?_)
      obtain ⟨q22, pl⟩ := u22
      obtain ⟨⟨eq22, rfl, hFc22, ⟨x25, hx_25, hb_25⟩, ⟨x26, hx_26, hb_26⟩, ⟨x27, hx_27, hb_27⟩, -⟩, hO⟩ := hu22
      have hO : okn g T q22.2 pl := hO
      have hP : va_P g.1 vcl ([] ++ pl) _ := hP
      have hD : va_D _ ([] ++ pl) := hD
      have hFc22 : frm (M_M_fail) s21 q22.2 := hFc22
      have hb_25 : x25 = tp := hb_25
      have hb_26 : x26 = rs := hb_26
      have hb_27 : x27 = ks := hb_27
      replace hR := bnd_step hR eq22
      have hF := frm_tr hF hFc22 (fun k hk => by unfold M_M_fail at hk; unfold M_M_result; omega)
      refine W.widen (k := 0) (n := 0) (by omega) (by omega) ?_
      refine lv_goto (tgt := 35) hx hb dM_result_22 (by decide) ?_
      exact mp_iret hx hb hr hlk hP hD hS ((q22.1, q22.2), pl) ⟨⟨hR.symm, rfl, hF, ⟨x25, hx_25, by omega⟩, ⟨x26, hx_26, by omega⟩, ⟨x27, hx_27, by omega⟩, trivial⟩, hO⟩ [] rfl rfl rfl (by omega) (by omega) dM_result_35
