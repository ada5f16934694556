abbrev c_M_none : ByteArray := prog_12_method_16_code
abbrev y_M_none : MethodName := ⟨"LatticeKeysModel", "none", "(I)Z"⟩
abbrev w_M_none : List Cond := Cond.code y_M_none c_M_none 2 (some .boolean) :: WG
theorem dM_none_0 : decode c_M_none 0 = .ok (.iload_n 1, 1) := by decide +kernel
theorem dM_none_1 : decode c_M_none 1 = .ok (.ifCond .lt 11, 3) := by decide +kernel
theorem dM_none_4 : decode c_M_none 4 = .ok (.iload_n 1, 1) := by decide +kernel
theorem dM_none_5 : decode c_M_none 5 = .ok (.aload_n 0, 1) := by decide +kernel
theorem dM_none_6 : decode c_M_none 6 = .ok (.getfield 83, 3) := by decide +kernel
theorem dM_none_9 : decode c_M_none 9 = .ok (.if_icmp .lt 7, 3) := by decide +kernel
theorem dM_none_12 : decode c_M_none 12 = .ok (.iconst 1, 1) := by decide +kernel
theorem dM_none_13 : decode c_M_none 13 = .ok (.goto 4, 3) := by decide +kernel
theorem dM_none_16 : decode c_M_none 16 = .ok (.iconst 0, 1) := by decide +kernel
theorem dM_none_17 : decode c_M_none 17 = .ok (.ireturn, 1) := by decide +kernel
abbrev c_M_openSize : ByteArray := prog_12_method_6_code
abbrev y_M_openSize : MethodName := ⟨"LatticeKeysModel", "openSize", "(I)I"⟩
abbrev w_M_openSize : List Cond := Cond.code y_M_openSize c_M_openSize 1 (some .int) :: WG
theorem dM_openSize_0 : decode c_M_openSize 0 = .ok (.iload_n 0, 1) := by decide +kernel
theorem dM_openSize_1 : decode c_M_openSize 1 = .ok (.iconst 3, 1) := by decide +kernel
theorem dM_openSize_2 : decode c_M_openSize 2 = .ok (.if_icmp .ge 10, 3) := by decide +kernel
theorem dM_openSize_5 : decode c_M_openSize 5 = .ok (.iload_n 0, 1) := by decide +kernel
theorem dM_openSize_6 : decode c_M_openSize 6 = .ok (.invokestatic 61, 3) := by decide +kernel
theorem dM_openSize_9 : decode c_M_openSize 9 = .ok (.goto 9, 3) := by decide +kernel
theorem dM_openSize_12 : decode c_M_openSize 12 = .ok (.iload_n 0, 1) := by decide +kernel
theorem dM_openSize_13 : decode c_M_openSize 13 = .ok (.iconst 3, 1) := by decide +kernel
theorem dM_openSize_14 : decode c_M_openSize 14 = .ok (.isub, 1) := by decide +kernel
theorem dM_openSize_15 : decode c_M_openSize 15 = .ok (.invokestatic 65, 3) := by decide +kernel
theorem dM_openSize_18 : decode c_M_openSize 18 = .ok (.ireturn, 1) := by decide +kernel
abbrev c_M_hiddenSize : ByteArray := prog_12_method_7_code
abbrev y_M_hiddenSize : MethodName := ⟨"LatticeKeysModel", "hiddenSize", "(I)I"⟩
abbrev w_M_hiddenSize : List Cond := Cond.code y_M_hiddenSize c_M_hiddenSize 1 (some .int) :: WG
theorem dM_hiddenSize_0 : decode c_M_hiddenSize 0 = .ok (.iload_n 0, 1) := by decide +kernel
theorem dM_hiddenSize_1 : decode c_M_hiddenSize 1 = .ok (.iconst 3, 1) := by decide +kernel
theorem dM_hiddenSize_2 : decode c_M_hiddenSize 2 = .ok (.if_icmp .ge 10, 3) := by decide +kernel
theorem dM_hiddenSize_5 : decode c_M_hiddenSize 5 = .ok (.iload_n 0, 1) := by decide +kernel
theorem dM_hiddenSize_6 : decode c_M_hiddenSize 6 = .ok (.invokestatic 66, 3) := by decide +kernel
theorem dM_hiddenSize_9 : decode c_M_hiddenSize 9 = .ok (.goto 9, 3) := by decide +kernel
theorem dM_hiddenSize_12 : decode c_M_hiddenSize 12 = .ok (.iload_n 0, 1) := by decide +kernel
theorem dM_hiddenSize_13 : decode c_M_hiddenSize 13 = .ok (.iconst 3, 1) := by decide +kernel
theorem dM_hiddenSize_14 : decode c_M_hiddenSize 14 = .ok (.isub, 1) := by decide +kernel
theorem dM_hiddenSize_15 : decode c_M_hiddenSize 15 = .ok (.invokestatic 69, 3) := by decide +kernel
theorem dM_hiddenSize_18 : decode c_M_hiddenSize 18 = .ok (.ireturn, 1) := by decide +kernel
abbrev c_M_size : ByteArray := prog_12_method_17_code
abbrev y_M_size : MethodName := ⟨"LatticeKeysModel", "size", "(IZ)I"⟩
abbrev w_M_size : List Cond := Cond.code y_M_size c_M_size 3 (some .int) :: WG
theorem dM_size_0 : decode c_M_size 0 = .ok (.iload_n 2, 1) := by decide +kernel
theorem dM_size_1 : decode c_M_size 1 = .ok (.ifCond .eq 12, 3) := by decide +kernel
theorem dM_size_4 : decode c_M_size 4 = .ok (.aload_n 0, 1) := by decide +kernel
theorem dM_size_5 : decode c_M_size 5 = .ok (.getfield 31, 3) := by decide +kernel
theorem dM_size_8 : decode c_M_size 8 = .ok (.iload_n 1, 1) := by decide +kernel
theorem dM_size_9 : decode c_M_size 9 = .ok (.iaload, 1) := by decide +kernel
theorem dM_size_10 : decode c_M_size 10 = .ok (.goto 12, 3) := by decide +kernel
theorem dM_size_13 : decode c_M_size 13 = .ok (.aload_n 0, 1) := by decide +kernel
theorem dM_size_14 : decode c_M_size 14 = .ok (.getfield 27, 3) := by decide +kernel
theorem dM_size_17 : decode c_M_size 17 = .ok (.iload_n 1, 1) := by decide +kernel
theorem dM_size_18 : decode c_M_size 18 = .ok (.iaload, 1) := by decide +kernel
theorem dM_size_19 : decode c_M_size 19 = .ok (.invokestatic 95, 3) := by decide +kernel
theorem dM_size_22 : decode c_M_size 22 = .ok (.ireturn, 1) := by decide +kernel
abbrev c_M_made : ByteArray := prog_12_method_13_code
abbrev y_M_made : MethodName := ⟨"LatticeKeysModel", "made", "(II)I"⟩
abbrev w_M_made : List Cond := Cond.code y_M_made c_M_made 3 (some .int) :: WG
theorem dM_made_0 : decode c_M_made 0 = .ok (.aload_n 0, 1) := by decide +kernel
theorem dM_made_1 : decode c_M_made 1 = .ok (.getfield 27, 3) := by decide +kernel
theorem dM_made_4 : decode c_M_made 4 = .ok (.aload_n 0, 1) := by decide +kernel
theorem dM_made_5 : decode c_M_made 5 = .ok (.getfield 83, 3) := by decide +kernel
theorem dM_made_8 : decode c_M_made 8 = .ok (.iload_n 1, 1) := by decide +kernel
theorem dM_made_9 : decode c_M_made 9 = .ok (.iastore, 1) := by decide +kernel
theorem dM_made_10 : decode c_M_made 10 = .ok (.aload_n 0, 1) := by decide +kernel
theorem dM_made_11 : decode c_M_made 11 = .ok (.getfield 31, 3) := by decide +kernel
theorem dM_made_14 : decode c_M_made 14 = .ok (.aload_n 0, 1) := by decide +kernel
theorem dM_made_15 : decode c_M_made 15 = .ok (.getfield 83, 3) := by decide +kernel
theorem dM_made_18 : decode c_M_made 18 = .ok (.iload_n 2, 1) := by decide +kernel
theorem dM_made_19 : decode c_M_made 19 = .ok (.iastore, 1) := by decide +kernel
theorem dM_made_20 : decode c_M_made 20 = .ok (.aload_n 0, 1) := by decide +kernel
theorem dM_made_21 : decode c_M_made 21 = .ok (.dup, 1) := by decide +kernel
theorem dM_made_22 : decode c_M_made 22 = .ok (.getfield 83, 3) := by decide +kernel
theorem dM_made_25 : decode c_M_made 25 = .ok (.iconst 1, 1) := by decide +kernel
theorem dM_made_26 : decode c_M_made 26 = .ok (.iadd, 1) := by decide +kernel
theorem dM_made_27 : decode c_M_made 27 = .ok (.putfield 83, 3) := by decide +kernel
theorem dM_made_30 : decode c_M_made 30 = .ok (.aload_n 0, 1) := by decide +kernel
theorem dM_made_31 : decode c_M_made 31 = .ok (.iconst 0, 1) := by decide +kernel
theorem dM_made_32 : decode c_M_made 32 = .ok (.putfield 70, 3) := by decide +kernel
theorem dM_made_35 : decode c_M_made 35 = .ok (.aload_n 0, 1) := by decide +kernel
theorem dM_made_36 : decode c_M_made 36 = .ok (.getfield 83, 3) := by decide +kernel
theorem dM_made_39 : decode c_M_made 39 = .ok (.iconst 1, 1) := by decide +kernel
theorem dM_made_40 : decode c_M_made 40 = .ok (.isub, 1) := by decide +kernel
theorem dM_made_41 : decode c_M_made 41 = .ok (.ireturn, 1) := by decide +kernel
abbrev c_M_part : ByteArray := prog_12_method_18_code
abbrev y_M_part : MethodName := ⟨"LatticeKeysModel", "part", "(IZI)I"⟩
abbrev w_M_part : List Cond := Cond.code y_M_part c_M_part 4 (some .int) :: WG
theorem dM_part_0 : decode c_M_part 0 = .ok (.aload_n 0, 1) := by decide +kernel
theorem dM_part_1 : decode c_M_part 1 = .ok (.iconst 0, 1) := by decide +kernel
theorem dM_part_2 : decode c_M_part 2 = .ok (.putfield 57, 3) := by decide +kernel
theorem dM_part_5 : decode c_M_part 5 = .ok (.aload_n 0, 1) := by decide +kernel
theorem dM_part_6 : decode c_M_part 6 = .ok (.iload_n 1, 1) := by decide +kernel
theorem dM_part_7 : decode c_M_part 7 = .ok (.invokevirtual 103, 3) := by decide +kernel
theorem dM_part_10 : decode c_M_part 10 = .ok (.ifCond .ne 12, 3) := by decide +kernel
theorem dM_part_13 : decode c_M_part 13 = .ok (.aload_n 0, 1) := by decide +kernel
theorem dM_part_14 : decode c_M_part 14 = .ok (.iload_n 1, 1) := by decide +kernel
theorem dM_part_15 : decode c_M_part 15 = .ok (.iload_n 2, 1) := by decide +kernel
theorem dM_part_16 : decode c_M_part 16 = .ok (.invokevirtual 107, 3) := by decide +kernel
theorem dM_part_19 : decode c_M_part 19 = .ok (.ifCond .ne 9, 3) := by decide +kernel
theorem dM_part_22 : decode c_M_part 22 = .ok (.aload_n 0, 1) := by decide +kernel
theorem dM_part_23 : decode c_M_part 23 = .ok (.iconst 1, 1) := by decide +kernel
theorem dM_part_24 : decode c_M_part 24 = .ok (.invokevirtual 73, 3) := by decide +kernel
theorem dM_part_27 : decode c_M_part 27 = .ok (.ireturn, 1) := by decide +kernel
theorem dM_part_28 : decode c_M_part 28 = .ok (.iload_n 3, 1) := by decide +kernel
theorem dM_part_29 : decode c_M_part 29 = .ok (.ifCond .lt 13, 3) := by decide +kernel
theorem dM_part_32 : decode c_M_part 32 = .ok (.iload_n 3, 1) := by decide +kernel
theorem dM_part_33 : decode c_M_part 33 = .ok (.aload_n 0, 1) := by decide +kernel
theorem dM_part_34 : decode c_M_part 34 = .ok (.iload_n 1, 1) := by decide +kernel
theorem dM_part_35 : decode c_M_part 35 = .ok (.iload_n 2, 1) := by decide +kernel
theorem dM_part_36 : decode c_M_part 36 = .ok (.invokevirtual 107, 3) := by decide +kernel
theorem dM_part_39 : decode c_M_part 39 = .ok (.if_icmp .lt 9, 3) := by decide +kernel
theorem dM_part_42 : decode c_M_part 42 = .ok (.aload_n 0, 1) := by decide +kernel
theorem dM_part_43 : decode c_M_part 43 = .ok (.iconst 2, 1) := by decide +kernel
theorem dM_part_44 : decode c_M_part 44 = .ok (.invokevirtual 73, 3) := by decide +kernel
theorem dM_part_47 : decode c_M_part 47 = .ok (.ireturn, 1) := by decide +kernel
theorem dM_part_48 : decode c_M_part 48 = .ok (.iload_n 2, 1) := by decide +kernel
theorem dM_part_49 : decode c_M_part 49 = .ok (.ifCond .eq 14, 3) := by decide +kernel
theorem dM_part_52 : decode c_M_part 52 = .ok (.aload_n 0, 1) := by decide +kernel
theorem dM_part_53 : decode c_M_part 53 = .ok (.getfield 24, 3) := by decide +kernel
theorem dM_part_56 : decode c_M_part 56 = .ok (.iload_n 1, 1) := by decide +kernel
theorem dM_part_57 : decode c_M_part 57 = .ok (.aaload, 1) := by decide +kernel
theorem dM_part_58 : decode c_M_part 58 = .ok (.iload_n 3, 1) := by decide +kernel
theorem dM_part_59 : decode c_M_part 59 = .ok (.baload, 1) := by decide +kernel
theorem dM_part_60 : decode c_M_part 60 = .ok (.goto 11, 3) := by decide +kernel
theorem dM_part_63 : decode c_M_part 63 = .ok (.aload_n 0, 1) := by decide +kernel
theorem dM_part_64 : decode c_M_part 64 = .ok (.getfield 21, 3) := by decide +kernel
theorem dM_part_67 : decode c_M_part 67 = .ok (.iload_n 1, 1) := by decide +kernel
theorem dM_part_68 : decode c_M_part 68 = .ok (.aaload, 1) := by decide +kernel
theorem dM_part_69 : decode c_M_part 69 = .ok (.iload_n 3, 1) := by decide +kernel
theorem dM_part_70 : decode c_M_part 70 = .ok (.baload, 1) := by decide +kernel
theorem dM_part_71 : decode c_M_part 71 = .ok (.sipush 255, 3) := by decide +kernel
theorem dM_part_74 : decode c_M_part 74 = .ok (.iand, 1) := by decide +kernel
theorem dM_part_75 : decode c_M_part 75 = .ok (.ireturn, 1) := by decide +kernel
abbrev c_M_show : ByteArray := prog_12_method_19_code
abbrev y_M_show : MethodName := ⟨"LatticeKeysModel", "show", "(IZ)I"⟩
abbrev w_M_show : List Cond := Cond.code y_M_show c_M_show 4 (some .int) :: WG
theorem dM_show_0 : decode c_M_show 0 = .ok (.aload_n 0, 1) := by decide +kernel
theorem dM_show_1 : decode c_M_show 1 = .ok (.iconst 0, 1) := by decide +kernel
theorem dM_show_2 : decode c_M_show 2 = .ok (.putfield 57, 3) := by decide +kernel
theorem dM_show_5 : decode c_M_show 5 = .ok (.aload_n 0, 1) := by decide +kernel
theorem dM_show_6 : decode c_M_show 6 = .ok (.iload_n 1, 1) := by decide +kernel
theorem dM_show_7 : decode c_M_show 7 = .ok (.invokevirtual 103, 3) := by decide +kernel
theorem dM_show_10 : decode c_M_show 10 = .ok (.ifCond .ne 12, 3) := by decide +kernel
theorem dM_show_13 : decode c_M_show 13 = .ok (.aload_n 0, 1) := by decide +kernel
theorem dM_show_14 : decode c_M_show 14 = .ok (.iload_n 1, 1) := by decide +kernel
theorem dM_show_15 : decode c_M_show 15 = .ok (.iload_n 2, 1) := by decide +kernel
theorem dM_show_16 : decode c_M_show 16 = .ok (.invokevirtual 107, 3) := by decide +kernel
theorem dM_show_19 : decode c_M_show 19 = .ok (.ifCond .ne 9, 3) := by decide +kernel
theorem dM_show_22 : decode c_M_show 22 = .ok (.aload_n 0, 1) := by decide +kernel
theorem dM_show_23 : decode c_M_show 23 = .ok (.iconst 1, 1) := by decide +kernel
theorem dM_show_24 : decode c_M_show 24 = .ok (.invokevirtual 73, 3) := by decide +kernel
theorem dM_show_27 : decode c_M_show 27 = .ok (.ireturn, 1) := by decide +kernel
theorem dM_show_28 : decode c_M_show 28 = .ok (.aload_n 0, 1) := by decide +kernel
theorem dM_show_29 : decode c_M_show 29 = .ok (.aload_n 0, 1) := by decide +kernel
theorem dM_show_30 : decode c_M_show 30 = .ok (.iload_n 1, 1) := by decide +kernel
theorem dM_show_31 : decode c_M_show 31 = .ok (.iload_n 2, 1) := by decide +kernel
theorem dM_show_32 : decode c_M_show 32 = .ok (.invokevirtual 107, 3) := by decide +kernel
theorem dM_show_35 : decode c_M_show 35 = .ok (.putfield 80, 3) := by decide +kernel
theorem dM_show_38 : decode c_M_show 38 = .ok (.iconst 0, 1) := by decide +kernel
theorem dM_show_39 : decode c_M_show 39 = .ok (.istore_n 3, 1) := by decide +kernel
theorem dM_show_40 : decode c_M_show 40 = .ok (.iload_n 3, 1) := by decide +kernel
theorem dM_show_41 : decode c_M_show 41 = .ok (.aload_n 0, 1) := by decide +kernel
theorem dM_show_42 : decode c_M_show 42 = .ok (.getfield 80, 3) := by decide +kernel
theorem dM_show_45 : decode c_M_show 45 = .ok (.if_icmp .ge 38, 3) := by decide +kernel
theorem dM_show_48 : decode c_M_show 48 = .ok (.aload_n 0, 1) := by decide +kernel
theorem dM_show_49 : decode c_M_show 49 = .ok (.getfield 13, 3) := by decide +kernel
theorem dM_show_52 : decode c_M_show 52 = .ok (.iload_n 3, 1) := by decide +kernel
theorem dM_show_53 : decode c_M_show 53 = .ok (.iload_n 2, 1) := by decide +kernel
theorem dM_show_54 : decode c_M_show 54 = .ok (.ifCond .eq 14, 3) := by decide +kernel
theorem dM_show_57 : decode c_M_show 57 = .ok (.aload_n 0, 1) := by decide +kernel
theorem dM_show_58 : decode c_M_show 58 = .ok (.getfield 24, 3) := by decide +kernel
theorem dM_show_61 : decode c_M_show 61 = .ok (.iload_n 1, 1) := by decide +kernel
theorem dM_show_62 : decode c_M_show 62 = .ok (.aaload, 1) := by decide +kernel
theorem dM_show_63 : decode c_M_show 63 = .ok (.iload_n 3, 1) := by decide +kernel
theorem dM_show_64 : decode c_M_show 64 = .ok (.baload, 1) := by decide +kernel
theorem dM_show_65 : decode c_M_show 65 = .ok (.goto 11, 3) := by decide +kernel
theorem dM_show_68 : decode c_M_show 68 = .ok (.aload_n 0, 1) := by decide +kernel
theorem dM_show_69 : decode c_M_show 69 = .ok (.getfield 21, 3) := by decide +kernel
theorem dM_show_72 : decode c_M_show 72 = .ok (.iload_n 1, 1) := by decide +kernel
theorem dM_show_73 : decode c_M_show 73 = .ok (.aaload, 1) := by decide +kernel
theorem dM_show_74 : decode c_M_show 74 = .ok (.iload_n 3, 1) := by decide +kernel
theorem dM_show_75 : decode c_M_show 75 = .ok (.baload, 1) := by decide +kernel
theorem dM_show_76 : decode c_M_show 76 = .ok (.bastore, 1) := by decide +kernel
theorem dM_show_77 : decode c_M_show 77 = .ok (.iinc 3 1, 3) := by decide +kernel
theorem dM_show_80 : decode c_M_show 80 = .ok (.goto (-40), 3) := by decide +kernel
theorem dM_show_83 : decode c_M_show 83 = .ok (.aload_n 0, 1) := by decide +kernel
theorem dM_show_84 : decode c_M_show 84 = .ok (.getfield 80, 3) := by decide +kernel
theorem dM_show_87 : decode c_M_show 87 = .ok (.ireturn, 1) := by decide +kernel
abbrev c_M_told : ByteArray := prog_12_method_20_code
abbrev y_M_told : MethodName := ⟨"LatticeKeysModel", "told", "(II)I"⟩
abbrev w_M_told : List Cond := Cond.code y_M_told c_M_told 3 (some .int) :: WG
theorem dM_told_0 : decode c_M_told 0 = .ok (.aload_n 0, 1) := by decide +kernel
theorem dM_told_1 : decode c_M_told 1 = .ok (.iconst 0, 1) := by decide +kernel
theorem dM_told_2 : decode c_M_told 2 = .ok (.putfield 57, 3) := by decide +kernel
theorem dM_told_5 : decode c_M_told 5 = .ok (.aload_n 0, 1) := by decide +kernel
theorem dM_told_6 : decode c_M_told 6 = .ok (.iload_n 1, 1) := by decide +kernel
theorem dM_told_7 : decode c_M_told 7 = .ok (.invokevirtual 103, 3) := by decide +kernel
theorem dM_told_10 : decode c_M_told 10 = .ok (.ifCond .eq 9, 3) := by decide +kernel
theorem dM_told_13 : decode c_M_told 13 = .ok (.aload_n 0, 1) := by decide +kernel
theorem dM_told_14 : decode c_M_told 14 = .ok (.iconst 1, 1) := by decide +kernel
theorem dM_told_15 : decode c_M_told 15 = .ok (.invokevirtual 73, 3) := by decide +kernel
theorem dM_told_18 : decode c_M_told 18 = .ok (.ireturn, 1) := by decide +kernel
theorem dM_told_19 : decode c_M_told 19 = .ok (.iload_n 2, 1) := by decide +kernel
theorem dM_told_20 : decode c_M_told 20 = .ok (.tableswitch 49 0 2 #[28, 35, 42], 28) := by decide +kernel
theorem dM_told_48 : decode c_M_told 48 = .ok (.aload_n 0, 1) := by decide +kernel
theorem dM_told_49 : decode c_M_told 49 = .ok (.getfield 27, 3) := by decide +kernel
theorem dM_told_52 : decode c_M_told 52 = .ok (.iload_n 1, 1) := by decide +kernel
theorem dM_told_53 : decode c_M_told 53 = .ok (.iaload, 1) := by decide +kernel
theorem dM_told_54 : decode c_M_told 54 = .ok (.ireturn, 1) := by decide +kernel
theorem dM_told_55 : decode c_M_told 55 = .ok (.aload_n 0, 1) := by decide +kernel
theorem dM_told_56 : decode c_M_told 56 = .ok (.iload_n 1, 1) := by decide +kernel
theorem dM_told_57 : decode c_M_told 57 = .ok (.iconst 0, 1) := by decide +kernel
theorem dM_told_58 : decode c_M_told 58 = .ok (.invokevirtual 107, 3) := by decide +kernel
theorem dM_told_61 : decode c_M_told 61 = .ok (.ireturn, 1) := by decide +kernel
theorem dM_told_62 : decode c_M_told 62 = .ok (.aload_n 0, 1) := by decide +kernel
theorem dM_told_63 : decode c_M_told 63 = .ok (.iload_n 1, 1) := by decide +kernel
theorem dM_told_64 : decode c_M_told 64 = .ok (.iconst 1, 1) := by decide +kernel
theorem dM_told_65 : decode c_M_told 65 = .ok (.invokevirtual 107, 3) := by decide +kernel
theorem dM_told_68 : decode c_M_told 68 = .ok (.ireturn, 1) := by decide +kernel
theorem dM_told_69 : decode c_M_told 69 = .ok (.aload_n 0, 1) := by decide +kernel
theorem dM_told_70 : decode c_M_told 70 = .ok (.iconst 2, 1) := by decide +kernel
theorem dM_told_71 : decode c_M_told 71 = .ok (.invokevirtual 73, 3) := by decide +kernel
theorem dM_told_74 : decode c_M_told 74 = .ok (.ireturn, 1) := by decide +kernel
abbrev c_M_thrown : ByteArray := prog_12_method_4_code
abbrev y_M_thrown : MethodName := ⟨"LatticeKeysModel", "thrown", "()I"⟩
abbrev w_M_thrown : List Cond := Cond.code y_M_thrown c_M_thrown 1 (some .int) :: WG
theorem dM_thrown_0 : decode c_M_thrown 0 = .ok (.aload_n 0, 1) := by decide +kernel
theorem dM_thrown_1 : decode c_M_thrown 1 = .ok (.getfield 57, 3) := by decide +kernel
theorem dM_thrown_4 : decode c_M_thrown 4 = .ok (.ireturn, 1) := by decide +kernel
abbrev c_M_hash : ByteArray := prog_12_method_25_code
abbrev y_M_hash : MethodName := ⟨"LatticeKeysModel", "hash", "(II)I"⟩
abbrev w_M_hash : List Cond := Cond.code y_M_hash c_M_hash 3 (some .int) :: WG
theorem dM_hash_0 : decode c_M_hash 0 = .ok (.aload_n 0, 1) := by decide +kernel
theorem dM_hash_1 : decode c_M_hash 1 = .ok (.iconst 0, 1) := by decide +kernel
theorem dM_hash_2 : decode c_M_hash 2 = .ok (.putfield 57, 3) := by decide +kernel
theorem dM_hash_5 : decode c_M_hash 5 = .ok (.iload_n 1, 1) := by decide +kernel
theorem dM_hash_6 : decode c_M_hash 6 = .ok (.ifCond .lt 19, 3) := by decide +kernel
theorem dM_hash_9 : decode c_M_hash 9 = .ok (.iload_n 1, 1) := by decide +kernel
theorem dM_hash_10 : decode c_M_hash 10 = .ok (.iconst 3, 1) := by decide +kernel
theorem dM_hash_11 : decode c_M_hash 11 = .ok (.if_icmp .gt 14, 3) := by decide +kernel
theorem dM_hash_14 : decode c_M_hash 14 = .ok (.iload_n 2, 1) := by decide +kernel
theorem dM_hash_15 : decode c_M_hash 15 = .ok (.ifCond .lt 10, 3) := by decide +kernel
theorem dM_hash_18 : decode c_M_hash 18 = .ok (.iload_n 2, 1) := by decide +kernel
theorem dM_hash_19 : decode c_M_hash 19 = .ok (.sipush 8192, 3) := by decide +kernel
theorem dM_hash_22 : decode c_M_hash 22 = .ok (.if_icmp .le 9, 3) := by decide +kernel
theorem dM_hash_25 : decode c_M_hash 25 = .ok (.aload_n 0, 1) := by decide +kernel
theorem dM_hash_26 : decode c_M_hash 26 = .ok (.iconst 1, 1) := by decide +kernel
theorem dM_hash_27 : decode c_M_hash 27 = .ok (.invokevirtual 73, 3) := by decide +kernel
theorem dM_hash_30 : decode c_M_hash 30 = .ok (.ireturn, 1) := by decide +kernel
theorem dM_hash_31 : decode c_M_hash 31 = .ok (.aload_n 0, 1) := by decide +kernel
theorem dM_hash_32 : decode c_M_hash 32 = .ok (.getfield 37, 3) := by decide +kernel
theorem dM_hash_35 : decode c_M_hash 35 = .ok (.iload_n 1, 1) := by decide +kernel
theorem dM_hash_36 : decode c_M_hash 36 = .ok (.iconst 1, 1) := by decide +kernel
theorem dM_hash_37 : decode c_M_hash 37 = .ok (.if_icmp .ne 8, 3) := by decide +kernel
theorem dM_hash_40 : decode c_M_hash 40 = .ok (.bipush 72, 2) := by decide +kernel
theorem dM_hash_42 : decode c_M_hash 42 = .ok (.goto 17, 3) := by decide +kernel
theorem dM_hash_45 : decode c_M_hash 45 = .ok (.iload_n 1, 1) := by decide +kernel
theorem dM_hash_46 : decode c_M_hash 46 = .ok (.iconst 2, 1) := by decide +kernel
theorem dM_hash_47 : decode c_M_hash 47 = .ok (.if_icmp .ne 9, 3) := by decide +kernel
theorem dM_hash_50 : decode c_M_hash 50 = .ok (.sipush 168, 3) := by decide +kernel
theorem dM_hash_53 : decode c_M_hash 53 = .ok (.goto 6, 3) := by decide +kernel
theorem dM_hash_56 : decode c_M_hash 56 = .ok (.sipush 136, 3) := by decide +kernel
theorem dM_hash_59 : decode c_M_hash 59 = .ok (.iload_n 1, 1) := by decide +kernel
theorem dM_hash_60 : decode c_M_hash 60 = .ok (.iconst 2, 1) := by decide +kernel
theorem dM_hash_61 : decode c_M_hash 61 = .ok (.if_icmp .ge 8, 3) := by decide +kernel
theorem dM_hash_64 : decode c_M_hash 64 = .ok (.bipush 6, 2) := by decide +kernel
theorem dM_hash_66 : decode c_M_hash 66 = .ok (.goto 5, 3) := by decide +kernel
theorem dM_hash_69 : decode c_M_hash 69 = .ok (.bipush 31, 2) := by decide +kernel
theorem dM_hash_71 : decode c_M_hash 71 = .ok (.invokevirtual 131, 3) := by decide +kernel
theorem dM_hash_74 : decode c_M_hash 74 = .ok (.aload_n 0, 1) := by decide +kernel
theorem dM_hash_75 : decode c_M_hash 75 = .ok (.getfield 37, 3) := by decide +kernel
theorem dM_hash_78 : decode c_M_hash 78 = .ok (.aload_n 0, 1) := by decide +kernel
theorem dM_hash_79 : decode c_M_hash 79 = .ok (.getfield 7, 3) := by decide +kernel
theorem dM_hash_82 : decode c_M_hash 82 = .ok (.iconst 0, 1) := by decide +kernel
theorem dM_hash_83 : decode c_M_hash 83 = .ok (.aload_n 0, 1) := by decide +kernel
theorem dM_hash_84 : decode c_M_hash 84 = .ok (.getfield 70, 3) := by decide +kernel
theorem dM_hash_87 : decode c_M_hash 87 = .ok (.invokevirtual 135, 3) := by decide +kernel
theorem dM_hash_90 : decode c_M_hash 90 = .ok (.aload_n 0, 1) := by decide +kernel
theorem dM_hash_91 : decode c_M_hash 91 = .ok (.getfield 37, 3) := by decide +kernel
theorem dM_hash_94 : decode c_M_hash 94 = .ok (.invokevirtual 139, 3) := by decide +kernel
theorem dM_hash_97 : decode c_M_hash 97 = .ok (.aload_n 0, 1) := by decide +kernel
theorem dM_hash_98 : decode c_M_hash 98 = .ok (.iload_n 1, 1) := by decide +kernel
theorem dM_hash_99 : decode c_M_hash 99 = .ok (.ifCond .ne 8, 3) := by decide +kernel
theorem dM_hash_102 : decode c_M_hash 102 = .ok (.bipush 32, 2) := by decide +kernel
theorem dM_hash_104 : decode c_M_hash 104 = .ok (.goto 14, 3) := by decide +kernel
theorem dM_hash_107 : decode c_M_hash 107 = .ok (.iload_n 1, 1) := by decide +kernel
theorem dM_hash_108 : decode c_M_hash 108 = .ok (.iconst 1, 1) := by decide +kernel
theorem dM_hash_109 : decode c_M_hash 109 = .ok (.if_icmp .ne 8, 3) := by decide +kernel
theorem dM_hash_112 : decode c_M_hash 112 = .ok (.bipush 64, 2) := by decide +kernel
theorem dM_hash_114 : decode c_M_hash 114 = .ok (.goto 4, 3) := by decide +kernel
theorem dM_hash_117 : decode c_M_hash 117 = .ok (.iload_n 2, 1) := by decide +kernel
theorem dM_hash_118 : decode c_M_hash 118 = .ok (.putfield 80, 3) := by decide +kernel
theorem dM_hash_121 : decode c_M_hash 121 = .ok (.aload_n 0, 1) := by decide +kernel
theorem dM_hash_122 : decode c_M_hash 122 = .ok (.getfield 37, 3) := by decide +kernel
theorem dM_hash_125 : decode c_M_hash 125 = .ok (.aload_n 0, 1) := by decide +kernel
theorem dM_hash_126 : decode c_M_hash 126 = .ok (.getfield 13, 3) := by decide +kernel
theorem dM_hash_129 : decode c_M_hash 129 = .ok (.iconst 0, 1) := by decide +kernel
theorem dM_hash_130 : decode c_M_hash 130 = .ok (.aload_n 0, 1) := by decide +kernel
theorem dM_hash_131 : decode c_M_hash 131 = .ok (.getfield 80, 3) := by decide +kernel
theorem dM_hash_134 : decode c_M_hash 134 = .ok (.invokevirtual 142, 3) := by decide +kernel
theorem dM_hash_137 : decode c_M_hash 137 = .ok (.aload_n 0, 1) := by decide +kernel
theorem dM_hash_138 : decode c_M_hash 138 = .ok (.iconst 0, 1) := by decide +kernel
theorem dM_hash_139 : decode c_M_hash 139 = .ok (.putfield 70, 3) := by decide +kernel
theorem dM_hash_142 : decode c_M_hash 142 = .ok (.aload_n 0, 1) := by decide +kernel
theorem dM_hash_143 : decode c_M_hash 143 = .ok (.getfield 80, 3) := by decide +kernel
theorem dM_hash_146 : decode c_M_hash 146 = .ok (.ireturn, 1) := by decide +kernel
set_option maxHeartbeats 4000000 in
set_option maxRecDepth 100000 in
theorem t_M_none (l : Launch) (g : Gd) (sz : Nat) (T : Ty) (pl : va_W) (hO : okx g T [] pl) (hU : uni T) (v : Int32) (h0 mt mr_ mk mo mh mse mhs msp msc mha tp rs ks : Nat) (x0 : Int32) (fS : Nat → Int32) (k_mt : T mt = some (1, 16384)) (k_mr_ : T mr_ = some (1, 8192)) (k_mk : T mk = some (1, 8192)) (k_mo : T mo = some (4, 2592)) (k_mh : T mh = some (4, 4896)) (k_mhs : T mhs = some (5, 4896)) (k_msp : T msp = some (20, 0)) (k_msc : T msc = some (23, 0)) (k_mha : T mha = some (49, 0)) (hb : tp ≤ 16384 ∧ rs ≤ 8192 ∧ ks ≤ 8) (hS5 : s5 fS)  : Met l y_M_none w_M_none ({ frames := 0, cells := 0, slots := 0, locals := 0 } : Room) (va_Pc [.ref h0, .int v] (pr (en g) g.1 vcl sz ([(h0, .inr (8, [.int x0, .int (nI tp), .int (nI rs), .int (nI ks), .ref mt, .ref mr_, .ref mk, .ref mo, .ref mh, .ref mse, .ref mhs, .ref msp, .ref msc, .ref mha])), (mse, .inl (g.2.1 0, 8, .inl fS))] ++ pl))) (va_Qi (fun (r : Int32) (u : va_W) => (r = nI 1 ∨ (r = nI 0 ∧ ∃ z : Nat, z < ks ∧ v = nI z)) ∧ okx g T [] u) (po g.1 vcl (va_A ([(h0, .inr (8, [.int x0, .int (nI tp), .int (nI rs), .int (nI ks), .ref mt, .ref mr_, .ref mk, .ref mo, .ref mh, .ref mse, .ref mhs, .ref msp, .ref msc, .ref mha])), (mse, .inl (g.2.1 0, 8, .inl fS))] ++ pl) sz) (fun (u : va_W) => [(h0, .inr (8, [.int x0, .int (nI tp), .int (nI rs), .int (nI ks), .ref mt, .ref mr_, .ref mk, .ref mo, .ref mh, .ref mse, .ref mhs, .ref msp, .ref msc, .ref mha])), (mse, .inl (g.2.1 0, 8, .inl fS))] ++ u)) (va_A ([(h0, .inr (8, [.int x0, .int (nI tp), .int (nI rs), .int (nI ks), .ref mt, .ref mr_, .ref mk, .ref mo, .ref mh, .ref mse, .ref mhs, .ref msp, .ref msc, .ref mha])), (mse, .inl (g.2.1 0, 8, .inl fS))] ++ pl) sz)) 0 0 (va_A ([(h0, .inr (8, [.int x0, .int (nI tp), .int (nI rs), .int (nI ks), .ref mt, .ref mr_, .ref mk, .ref mo, .ref mh, .ref mse, .ref mhs, .ref msp, .ref msc, .ref mha])), (mse, .inl (g.2.1 0, 8, .inl fS))] ++ pl) sz) := by
  refine mc_entry (cc := c_M_none) (maxL := 2) (ret := (some .boolean)) (by decide) rfl (Nat.le_of_ble_eq_true rfl) ?_
  intro p e s m args below meth c ls F hr hlk hnm hsz hP hD hE hA hl
  obtain ⟨hx, hb, hml, hown, hts⟩ := id F
  have hK := hE.1
  generalize va_A ([(h0, .inr (8, [.int x0, .int (nI tp), .int (nI rs), .int (nI ks), .ref mt, .ref mr_, .ref mk, .ref mo, .ref mh, .ref mse, .ref mhs, .ref msp, .ref msc, .ref mha])), (mse, .inl (g.2.1 0, 8, .inl fS))] ++ pl) sz = A at hD hE hA ⊢
  have hS : va_S A s.heap s.heap [] := va_S.rf
  have hl : lv_has ls 2 [(0, .ref h0), (1, .int v)] := hl
  refine lv_iload_n hx hb dM_none_0 rfl (lv_at hl 1 rfl) ?_
  refine lv_if_lt (tgt := 12) hx hb dM_none_1 (by decide) (fun h21 => ?_) (fun h21 => ?_)
  · refine lv_iconst (v := nI 1) hx hb dM_none_12 (by decide) ?_
    refine lv_goto (tgt := 17) hx hb dM_none_13 (by decide) ?_
    exact mp_zret hx hb hr hlk rfl hP hD hS pl ⟨(Or.inl rfl), hO⟩ [0, 1] rfl rfl rfl (by omega) (by omega) dM_none_17
  · refine lv_iload_n hx hb dM_none_4 rfl (lv_at hl 1 rfl) ?_
    refine lv_aload_n hx hb dM_none_5 rfl (lv_at hl 0 rfl) ?_
    refine va_get (D := g.1) (ci := 8) (C := "LatticeKeysModel") (T := T_M) (N := 14) hx hb hts (wg_ft i_M) hown hK hP 0 rfl rfl 3 (by decide) (hts _ (wg_t kw_1529)) (fun _ h9 => h9) rfl dM_none_6 ?_
    refine lv_icmp_lt (tgt := 16) hx hb dM_none_9 (by decide) (fun h22 => ?_) (fun h22 => ?_)
    · obtain ⟨z21, hz21, rfl⟩ := i32_ltc h21 (by omega) h22
      refine lv_iconst (v := nI 0) hx hb dM_none_16 (by decide) ?_
      exact mp_zret hx hb hr hlk rfl hP hD hS pl ⟨(Or.inr ⟨rfl, _, hz21, rfl⟩), hO⟩ [0, 1] rfl rfl rfl (by omega) (by omega) dM_none_17
    · refine lv_iconst (v := nI 1) hx hb dM_none_12 (by decide) ?_
      refine lv_goto (tgt := 17) hx hb dM_none_13 (by decide) ?_
      exact mp_zret hx hb hr hlk rfl hP hD hS pl ⟨(Or.inl rfl), hO⟩ [0, 1] rfl rfl rfl (by omega) (by omega) dM_none_17
set_option maxHeartbeats 4000000 in
set_option maxRecDepth 100000 in
theorem t_M_openSize_0 (l : Launch) (g : Gd) (sz : Nat) (T : Ty) (xs : List Nat) (pl : va_W) (hO : okx g T xs pl) (hU : uni T)  : Met l y_M_openSize w_M_openSize ({ frames := 1, cells := 0, slots := 0, locals := 20 } : Room) (va_Pc [.int (nI 0)] (pr (en g) g.1 vcl sz ([] ++ pl))) (va_Qi (fun (r : Int32) (u : va_W) => (r = nI 800) ∧ okx g T xs u) (po g.1 vcl (va_A ([] ++ pl) sz) (fun (u : va_W) => [] ++ u)) (va_A ([] ++ pl) sz)) 0 0 (va_A ([] ++ pl) sz) := by
  refine mc_entry (cc := c_M_openSize) (maxL := 1) (ret := (some .int)) (by decide) rfl (Nat.le_of_ble_eq_true rfl) ?_
  intro p e s m args below meth c ls F hr hlk hnm hsz hP hD hE hA hl
  obtain ⟨hx, hb, hml, hown, hts⟩ := id F
  have hK := hE.1
  generalize va_A ([] ++ pl) sz = A at hD hE hA ⊢
  have hS : va_S A s.heap s.heap [] := va_S.rf
  have hl : lv_has ls 1 [(0, .int (nI 0))] := hl
  refine lv_iload_n hx hb dM_openSize_0 rfl (lv_at hl 0 rfl) ?_
  refine lv_iconst (v := nI 3) hx hb dM_openSize_1 (by decide) ?_
  refine mi_ge (tgt := 12) hx hb dM_openSize_2 (by decide) (by omega) (by omega) (fun h21 => absurd h21 (by omega)) (fun h21 => ?_)
  refine lv_iload_n hx hb dM_openSize_5 rfl (lv_at hl 0 rfl) ?_
  refine mp_i (cx := []) (wr := []) hP hD hS hA [] [] rfl rfl rfl (by decide) (va_runS (As := [.int (nI 0)]) (rest := []) F (t_ME_openSize_0 l g _ T xs pl hO hU  ) (va_cwS 1 hts (wg_app (wg_c kw_1767 (wg_c kw_1692 (wg_c kw_11 wg_n))) kw_1693) rfl rfl rfl (by decide +kernel) ⟨by decide, by decide⟩) (pp_S (en_ok g) hP hD hS hA hE [] rfl rfl) rfl rfl hl.1 rfl (lv_room (Nat.le_of_ble_eq_true rfl)) dM_openSize_6 ⟨by omega, by omega⟩) (fun r21 pl H locs hu21 hP hD hS => ?_)
  obtain ⟨hq21, hO⟩ := hu21
  have hP : va_P g.1 vcl ([] ++ pl) _ := hP
  have hD : va_D _ ([] ++ pl) := hD
  obtain rfl := hq21
  refine W.widen (k := 0) (n := 0) (by omega) (by omega) ?_
  refine lv_goto (tgt := 18) hx hb dM_openSize_9 (by decide) ?_
  exact mp_iret hx hb hr hlk hP hD hS pl ⟨rfl, hO⟩ [] rfl rfl rfl (by omega) (by omega) dM_openSize_18
set_option maxHeartbeats 4000000 in
set_option maxRecDepth 100000 in
theorem t_M_openSize_1 (l : Launch) (g : Gd) (sz : Nat) (T : Ty) (xs : List Nat) (pl : va_W) (hO : okx g T xs pl) (hU : uni T)  : Met l y_M_openSize w_M_openSize ({ frames := 1, cells := 0, slots := 0, locals := 20 } : Room) (va_Pc [.int (nI 1)] (pr (en g) g.1 vcl sz ([] ++ pl))) (va_Qi (fun (r : Int32) (u : va_W) => (r = nI 1184) ∧ okx g T xs u) (po g.1 vcl (va_A ([] ++ pl) sz) (fun (u : va_W) => [] ++ u)) (va_A ([] ++ pl) sz)) 0 0 (va_A ([] ++ pl) sz) := by
  refine mc_entry (cc := c_M_openSize) (maxL := 1) (ret := (some .int)) (by decide) rfl (Nat.le_of_ble_eq_true rfl) ?_
  intro p e s m args below meth c ls F hr hlk hnm hsz hP hD hE hA hl
  obtain ⟨hx, hb, hml, hown, hts⟩ := id F
  have hK := hE.1
  generalize va_A ([] ++ pl) sz = A at hD hE hA ⊢
  have hS : va_S A s.heap s.heap [] := va_S.rf
  have hl : lv_has ls 1 [(0, .int (nI 1))] := hl
  refine lv_iload_n hx hb dM_openSize_0 rfl (lv_at hl 0 rfl) ?_
  refine lv_iconst (v := nI 3) hx hb dM_openSize_1 (by decide) ?_
  refine mi_ge (tgt := 12) hx hb dM_openSize_2 (by decide) (by omega) (by omega) (fun h21 => absurd h21 (by omega)) (fun h21 => ?_)
  refine lv_iload_n hx hb dM_openSize_5 rfl (lv_at hl 0 rfl) ?_
  refine mp_i (cx := []) (wr := []) hP hD hS hA [] [] rfl rfl rfl (by decide) (va_runS (As := [.int (nI 1)]) (rest := []) F (t_ME_openSize_1 l g _ T xs pl hO hU  ) (va_cwS 1 hts (wg_app (wg_c kw_1767 (wg_c kw_1692 (wg_c kw_11 wg_n))) kw_1693) rfl rfl rfl (by decide +kernel) ⟨by decide, by decide⟩) (pp_S (en_ok g) hP hD hS hA hE [] rfl rfl) rfl rfl hl.1 rfl (lv_room (Nat.le_of_ble_eq_true rfl)) dM_openSize_6 ⟨by omega, by omega⟩) (fun r21 pl H locs hu21 hP hD hS => ?_)
  obtain ⟨hq21, hO⟩ := hu21
  have hP : va_P g.1 vcl ([] ++ pl) _ := hP
  have hD : va_D _ ([] ++ pl) := hD
  obtain rfl := hq21
  refine W.widen (k := 0) (n := 0) (by omega) (by omega) ?_
  refine lv_goto (tgt := 18) hx hb dM_openSize_9 (by decide) ?_
  exact mp_iret hx hb hr hlk hP hD hS pl ⟨rfl, hO⟩ [] rfl rfl rfl (by omega) (by omega) dM_openSize_18
set_option maxHeartbeats 4000000 in
set_option maxRecDepth 100000 in
theorem t_M_openSize_2 (l : Launch) (g : Gd) (sz : Nat) (T : Ty) (xs : List Nat) (pl : va_W) (hO : okx g T xs pl) (hU : uni T)  : Met l y_M_openSize w_M_openSize ({ frames := 1, cells := 0, slots := 0, locals := 20 } : Room) (va_Pc [.int (nI 2)] (pr (en g) g.1 vcl sz ([] ++ pl))) (va_Qi (fun (r : Int32) (u : va_W) => (r = nI 1568) ∧ okx g T xs u) (po g.1 vcl (va_A ([] ++ pl) sz) (fun (u : va_W) => [] ++ u)) (va_A ([] ++ pl) sz)) 0 0 (va_A ([] ++ pl) sz) := by
  refine mc_entry (cc := c_M_openSize) (maxL := 1) (ret := (some .int)) (by decide) rfl (Nat.le_of_ble_eq_true rfl) ?_
  intro p e s m args below meth c ls F hr hlk hnm hsz hP hD hE hA hl
  obtain ⟨hx, hb, hml, hown, hts⟩ := id F
  have hK := hE.1
  generalize va_A ([] ++ pl) sz = A at hD hE hA ⊢
  have hS : va_S A s.heap s.heap [] := va_S.rf
  have hl : lv_has ls 1 [(0, .int (nI 2))] := hl
  refine lv_iload_n hx hb dM_openSize_0 rfl (lv_at hl 0 rfl) ?_
  refine lv_iconst (v := nI 3) hx hb dM_openSize_1 (by decide) ?_
  refine mi_ge (tgt := 12) hx hb dM_openSize_2 (by decide) (by omega) (by omega) (fun h21 => absurd h21 (by omega)) (fun h21 => ?_)
  refine lv_iload_n hx hb dM_openSize_5 rfl (lv_at hl 0 rfl) ?_
  refine mp_i (cx := []) (wr := []) hP hD hS hA [] [] rfl rfl rfl (by decide) (va_runS (As := [.int (nI 2)]) (rest := []) F (t_ME_openSize_2 l g _ T xs pl hO hU  ) (va_cwS 1 hts (wg_app (wg_c kw_1767 (wg_c kw_1692 (wg_c kw_11 wg_n))) kw_1693) rfl rfl rfl (by decide +kernel) ⟨by decide, by decide⟩) (pp_S (en_ok g) hP hD hS hA hE [] rfl rfl) rfl rfl hl.1 rfl (lv_room (Nat.le_of_ble_eq_true rfl)) dM_openSize_6 ⟨by omega, by omega⟩) (fun r21 pl H locs hu21 hP hD hS => ?_)
  obtain ⟨hq21, hO⟩ := hu21
  have hP : va_P g.1 vcl ([] ++ pl) _ := hP
  have hD : va_D _ ([] ++ pl) := hD
  obtain rfl := hq21
  refine W.widen (k := 0) (n := 0) (by omega) (by omega) ?_
  refine lv_goto (tgt := 18) hx hb dM_openSize_9 (by decide) ?_
  exact mp_iret hx hb hr hlk hP hD hS pl ⟨rfl, hO⟩ [] rfl rfl rfl (by omega) (by omega) dM_openSize_18
set_option maxHeartbeats 4000000 in
set_option maxRecDepth 100000 in
theorem t_M_openSize_3 (l : Launch) (g : Gd) (sz : Nat) (T : Ty) (xs : List Nat) (pl : va_W) (hO : okx g T xs pl) (hU : uni T)  : Met l y_M_openSize w_M_openSize ({ frames := 1, cells := 0, slots := 0, locals := 20 } : Room) (va_Pc [.int (nI 3)] (pr (en g) g.1 vcl sz ([] ++ pl))) (va_Qi (fun (r : Int32) (u : va_W) => (r = nI 1312) ∧ okx g T xs u) (po g.1 vcl (va_A ([] ++ pl) sz) (fun (u : va_W) => [] ++ u)) (va_A ([] ++ pl) sz)) 0 0 (va_A ([] ++ pl) sz) := by
  refine mc_entry (cc := c_M_openSize) (maxL := 1) (ret := (some .int)) (by decide) rfl (Nat.le_of_ble_eq_true rfl) ?_
  intro p e s m args below meth c ls F hr hlk hnm hsz hP hD hE hA hl
  obtain ⟨hx, hb, hml, hown, hts⟩ := id F
  have hK := hE.1
  generalize va_A ([] ++ pl) sz = A at hD hE hA ⊢
  have hS : va_S A s.heap s.heap [] := va_S.rf
  have hl : lv_has ls 1 [(0, .int (nI 3))] := hl
  refine lv_iload_n hx hb dM_openSize_0 rfl (lv_at hl 0 rfl) ?_
  refine lv_iconst (v := nI 3) hx hb dM_openSize_1 (by decide) ?_
  refine mi_ge (tgt := 12) hx hb dM_openSize_2 (by decide) (by omega) (by omega) (fun h21 => ?_) (fun h21 => absurd h21 (by omega))
  refine lv_iload_n hx hb dM_openSize_12 rfl (lv_at hl 0 rfl) ?_
  refine lv_iconst (v := nI 3) hx hb dM_openSize_13 (by decide) ?_
  refine mi_isub hx hb dM_openSize_14 (by omega) ?_
  refine mi_as (show nI (3 - 3) = nI 0 from rfl) ?_
  refine mp_i (cx := []) (wr := []) hP hD hS hA [] [] rfl rfl rfl (by decide) (va_runS (As := [.int (nI 0)]) (rest := []) F (t_MH_openSize_0 l g _ T xs pl hO hU  ) (va_cwS 1 hts (wg_app (wg_c kw_1768 (wg_c kw_1745 (wg_c kw_13 wg_n))) kw_1746) rfl rfl rfl (by decide +kernel) ⟨by decide, by decide⟩) (pp_S (en_ok g) hP hD hS hA hE [] rfl rfl) rfl rfl hl.1 rfl (lv_room (Nat.le_of_ble_eq_true rfl)) dM_openSize_15 ⟨by omega, by omega⟩) (fun r21 pl H locs hu21 hP hD hS => ?_)
  obtain ⟨hq21, hO⟩ := hu21
  have hP : va_P g.1 vcl ([] ++ pl) _ := hP
  have hD : va_D _ ([] ++ pl) := hD
  obtain rfl := hq21
  refine W.widen (k := 0) (n := 0) (by omega) (by omega) ?_
  exact mp_iret hx hb hr hlk hP hD hS pl ⟨rfl, hO⟩ [] rfl rfl rfl (by omega) (by omega) dM_openSize_18
set_option maxHeartbeats 4000000 in
set_option maxRecDepth 100000 in
theorem t_M_openSize_4 (l : Launch) (g : Gd) (sz : Nat) (T : Ty) (xs : List Nat) (pl : va_W) (hO : okx g T xs pl) (hU : uni T)  : Met l y_M_openSize w_M_openSize ({ frames := 1, cells := 0, slots := 0, locals := 20 } : Room) (va_Pc [.int (nI 4)] (pr (en g) g.1 vcl sz ([] ++ pl))) (va_Qi (fun (r : Int32) (u : va_W) => (r = nI 1952) ∧ okx g T xs u) (po g.1 vcl (va_A ([] ++ pl) sz) (fun (u : va_W) => [] ++ u)) (va_A ([] ++ pl) sz)) 0 0 (va_A ([] ++ pl) sz) := by
  refine mc_entry (cc := c_M_openSize) (maxL := 1) (ret := (some .int)) (by decide) rfl (Nat.le_of_ble_eq_true rfl) ?_
  intro p e s m args below meth c ls F hr hlk hnm hsz hP hD hE hA hl
  obtain ⟨hx, hb, hml, hown, hts⟩ := id F
  have hK := hE.1
  generalize va_A ([] ++ pl) sz = A at hD hE hA ⊢
  have hS : va_S A s.heap s.heap [] := va_S.rf
  have hl : lv_has ls 1 [(0, .int (nI 4))] := hl
  refine lv_iload_n hx hb dM_openSize_0 rfl (lv_at hl 0 rfl) ?_
  refine lv_iconst (v := nI 3) hx hb dM_openSize_1 (by decide) ?_
  refine mi_ge (tgt := 12) hx hb dM_openSize_2 (by decide) (by omega) (by omega) (fun h21 => ?_) (fun h21 => absurd h21 (by omega))
  refine lv_iload_n hx hb dM_openSize_12 rfl (lv_at hl 0 rfl) ?_
  refine lv_iconst (v := nI 3) hx hb dM_openSize_13 (by decide) ?_
  refine mi_isub hx hb dM_openSize_14 (by omega) ?_
  refine mi_as (show nI (4 - 3) = nI 1 from rfl) ?_
  refine mp_i (cx := []) (wr := []) hP hD hS hA [] [] rfl rfl rfl (by decide) (va_runS (As := [.int (nI 1)]) (rest := []) F (t_MH_openSize_1 l g _ T xs pl hO hU  ) (va_cwS 1 hts (wg_app (wg_c kw_1768 (wg_c kw_1745 (wg_c kw_13 wg_n))) kw_1746) rfl rfl rfl (by decide +kernel) ⟨by decide, by decide⟩) (pp_S (en_ok g) hP hD hS hA hE [] rfl rfl) rfl rfl hl.1 rfl (lv_room (Nat.le_of_ble_eq_true rfl)) dM_openSize_15 ⟨by omega, by omega⟩) (fun r21 pl H locs hu21 hP hD hS => ?_)
  obtain ⟨hq21, hO⟩ := hu21
  have hP : va_P g.1 vcl ([] ++ pl) _ := hP
  have hD : va_D _ ([] ++ pl) := hD
  obtain rfl := hq21
  refine W.widen (k := 0) (n := 0) (by omega) (by omega) ?_
  exact mp_iret hx hb hr hlk hP hD hS pl ⟨rfl, hO⟩ [] rfl rfl rfl (by omega) (by omega) dM_openSize_18
set_option maxHeartbeats 4000000 in
set_option maxRecDepth 100000 in
theorem t_M_openSize_5 (l : Launch) (g : Gd) (sz : Nat) (T : Ty) (xs : List Nat) (pl : va_W) (hO : okx g T xs pl) (hU : uni T)  : Met l y_M_openSize w_M_openSize ({ frames := 1, cells := 0, slots := 0, locals := 20 } : Room) (va_Pc [.int (nI 5)] (pr (en g) g.1 vcl sz ([] ++ pl))) (va_Qi (fun (r : Int32) (u : va_W) => (r = nI 2592) ∧ okx g T xs u) (po g.1 vcl (va_A ([] ++ pl) sz) (fun (u : va_W) => [] ++ u)) (va_A ([] ++ pl) sz)) 0 0 (va_A ([] ++ pl) sz) := by
  refine mc_entry (cc := c_M_openSize) (maxL := 1) (ret := (some .int)) (by decide) rfl (Nat.le_of_ble_eq_true rfl) ?_
  intro p e s m args below meth c ls F hr hlk hnm hsz hP hD hE hA hl
  obtain ⟨hx, hb, hml, hown, hts⟩ := id F
  have hK := hE.1
  generalize va_A ([] ++ pl) sz = A at hD hE hA ⊢
  have hS : va_S A s.heap s.heap [] := va_S.rf
  have hl : lv_has ls 1 [(0, .int (nI 5))] := hl
  refine lv_iload_n hx hb dM_openSize_0 rfl (lv_at hl 0 rfl) ?_
  refine lv_iconst (v := nI 3) hx hb dM_openSize_1 (by decide) ?_
  refine mi_ge (tgt := 12) hx hb dM_openSize_2 (by decide) (by omega) (by omega) (fun h21 => ?_) (fun h21 => absurd h21 (by omega))
  refine lv_iload_n hx hb dM_openSize_12 rfl (lv_at hl 0 rfl) ?_
  refine lv_iconst (v := nI 3) hx hb dM_openSize_13 (by decide) ?_
  refine mi_isub hx hb dM_openSize_14 (by omega) ?_
  refine mi_as (show nI (5 - 3) = nI 2 from rfl) ?_
  refine mp_i (cx := []) (wr := []) hP hD hS hA [] [] rfl rfl rfl (by decide) (va_runS (As := [.int (nI 2)]) (rest := []) F (t_MH_openSize_2 l g _ T xs pl hO hU  ) (va_cwS 1 hts (wg_app (wg_c kw_1768 (wg_c kw_1745 (wg_c kw_13 wg_n))) kw_1746) rfl rfl rfl (by decide +kernel) ⟨by decide, by decide⟩) (pp_S (en_ok g) hP hD hS hA hE [] rfl rfl) rfl rfl hl.1 rfl (lv_room (Nat.le_of_ble_eq_true rfl)) dM_openSize_15 ⟨by omega, by omega⟩) (fun r21 pl H locs hu21 hP hD hS => ?_)
  obtain ⟨hq21, hO⟩ := hu21
  have hP : va_P g.1 vcl ([] ++ pl) _ := hP
  have hD : va_D _ ([] ++ pl) := hD
  obtain rfl := hq21
  refine W.widen (k := 0) (n := 0) (by omega) (by omega) ?_
  exact mp_iret hx hb hr hlk hP hD hS pl ⟨rfl, hO⟩ [] rfl rfl rfl (by omega) (by omega) dM_openSize_18
set_option maxHeartbeats 4000000 in
set_option maxRecDepth 100000 in
theorem t_M_hiddenSize_0 (l : Launch) (g : Gd) (sz : Nat) (T : Ty) (xs : List Nat) (pl : va_W) (hO : okx g T xs pl) (hU : uni T)  : Met l y_M_hiddenSize w_M_hiddenSize ({ frames := 1, cells := 0, slots := 0, locals := 20 } : Room) (va_Pc [.int (nI 0)] (pr (en g) g.1 vcl sz ([] ++ pl))) (va_Qi (fun (r : Int32) (u : va_W) => (r = nI 1632) ∧ okx g T xs u) (po g.1 vcl (va_A ([] ++ pl) sz) (fun (u : va_W) => [] ++ u)) (va_A ([] ++ pl) sz)) 0 0 (va_A ([] ++ pl) sz) := by
  refine mc_entry (cc := c_M_hiddenSize) (maxL := 1) (ret := (some .int)) (by decide) rfl (Nat.le_of_ble_eq_true rfl) ?_
  intro p e s m args below meth c ls F hr hlk hnm hsz hP hD hE hA hl
  obtain ⟨hx, hb, hml, hown, hts⟩ := id F
  have hK := hE.1
  generalize va_A ([] ++ pl) sz = A at hD hE hA ⊢
  have hS : va_S A s.heap s.heap [] := va_S.rf
  have hl : lv_has ls 1 [(0, .int (nI 0))] := hl
  refine lv_iload_n hx hb dM_hiddenSize_0 rfl (lv_at hl 0 rfl) ?_
  refine lv_iconst (v := nI 3) hx hb dM_hiddenSize_1 (by decide) ?_
  refine mi_ge (tgt := 12) hx hb dM_hiddenSize_2 (by decide) (by omega) (by omega) (fun h21 => absurd h21 (by omega)) (fun h21 => ?_)
  refine lv_iload_n hx hb dM_hiddenSize_5 rfl (lv_at hl 0 rfl) ?_
  refine mp_i (cx := []) (wr := []) hP hD hS hA [] [] rfl rfl rfl (by decide) (va_runS (As := [.int (nI 0)]) (rest := []) F (t_ME_hiddenSize_0 l g _ T xs pl hO hU  ) (va_cwS 1 hts (wg_app (wg_c kw_1750 (wg_c kw_1751 (wg_c kw_11 wg_n))) kw_1752) rfl rfl rfl (by decide +kernel) ⟨by decide, by decide⟩) (pp_S (en_ok g) hP hD hS hA hE [] rfl rfl) rfl rfl hl.1 rfl (lv_room (Nat.le_of_ble_eq_true rfl)) dM_hiddenSize_6 ⟨by omega, by omega⟩) (fun r21 pl H locs hu21 hP hD hS => ?_)
  obtain ⟨hq21, hO⟩ := hu21
  have hP : va_P g.1 vcl ([] ++ pl) _ := hP
  have hD : va_D _ ([] ++ pl) := hD
  obtain rfl := hq21
  refine W.widen (k := 0) (n := 0) (by omega) (by omega) ?_
  refine lv_goto (tgt := 18) hx hb dM_hiddenSize_9 (by decide) ?_
  exact mp_iret hx hb hr hlk hP hD hS pl ⟨rfl, hO⟩ [] rfl rfl rfl (by omega) (by omega) dM_hiddenSize_18
set_option maxHeartbeats 4000000 in
set_option maxRecDepth 100000 in
theorem t_M_hiddenSize_1 (l : Launch) (g : Gd) (sz : Nat) (T : Ty) (xs : List Nat) (pl : va_W) (hO : okx g T xs pl) (hU : uni T)  : Met l y_M_hiddenSize w_M_hiddenSize ({ frames := 1, cells := 0, slots := 0, locals := 20 } : Room) (va_Pc [.int (nI 1)] (pr (en g) g.1 vcl sz ([] ++ pl))) (va_Qi (fun (r : Int32) (u : va_W) => (r = nI 2400) ∧ okx g T xs u) (po g.1 vcl (va_A ([] ++ pl) sz) (fun (u : va_W) => [] ++ u)) (va_A ([] ++ pl) sz)) 0 0 (va_A ([] ++ pl) sz) := by
  refine mc_entry (cc := c_M_hiddenSize) (maxL := 1) (ret := (some .int)) (by decide) rfl (Nat.le_of_ble_eq_true rfl) ?_
  intro p e s m args below meth c ls F hr hlk hnm hsz hP hD hE hA hl
  obtain ⟨hx, hb, hml, hown, hts⟩ := id F
  have hK := hE.1
  generalize va_A ([] ++ pl) sz = A at hD hE hA ⊢
  have hS : va_S A s.heap s.heap [] := va_S.rf
  have hl : lv_has ls 1 [(0, .int (nI 1))] := hl
  refine lv_iload_n hx hb dM_hiddenSize_0 rfl (lv_at hl 0 rfl) ?_
  refine lv_iconst (v := nI 3) hx hb dM_hiddenSize_1 (by decide) ?_
  refine mi_ge (tgt := 12) hx hb dM_hiddenSize_2 (by decide) (by omega) (by omega) (fun h21 => absurd h21 (by omega)) (fun h21 => ?_)
  refine lv_iload_n hx hb dM_hiddenSize_5 rfl (lv_at hl 0 rfl) ?_
  refine mp_i (cx := []) (wr := []) hP hD hS hA [] [] rfl rfl rfl (by decide) (va_runS (As := [.int (nI 1)]) (rest := []) F (t_ME_hiddenSize_1 l g _ T xs pl hO hU  ) (va_cwS 1 hts (wg_app (wg_c kw_1750 (wg_c kw_1751 (wg_c kw_11 wg_n))) kw_1752) rfl rfl rfl (by decide +kernel) ⟨by decide, by decide⟩) (pp_S (en_ok g) hP hD hS hA hE [] rfl rfl) rfl rfl hl.1 rfl (lv_room (Nat.le_of_ble_eq_true rfl)) dM_hiddenSize_6 ⟨by omega, by omega⟩) (fun r21 pl H locs hu21 hP hD hS => ?_)
  obtain ⟨hq21, hO⟩ := hu21
  have hP : va_P g.1 vcl ([] ++ pl) _ := hP
  have hD : va_D _ ([] ++ pl) := hD
  obtain rfl := hq21
  refine W.widen (k := 0) (n := 0) (by omega) (by omega) ?_
  refine lv_goto (tgt := 18) hx hb dM_hiddenSize_9 (by decide) ?_
  exact mp_iret hx hb hr hlk hP hD hS pl ⟨rfl, hO⟩ [] rfl rfl rfl (by omega) (by omega) dM_hiddenSize_18
set_option maxHeartbeats 4000000 in
set_option maxRecDepth 100000 in
theorem t_M_hiddenSize_2 (l : Launch) (g : Gd) (sz : Nat) (T : Ty) (xs : List Nat) (pl : va_W) (hO : okx g T xs pl) (hU : uni T)  : Met l y_M_hiddenSize w_M_hiddenSize ({ frames := 1, cells := 0, slots := 0, locals := 20 } : Room) (va_Pc [.int (nI 2)] (pr (en g) g.1 vcl sz ([] ++ pl))) (va_Qi (fun (r : Int32) (u : va_W) => (r = nI 3168) ∧ okx g T xs u) (po g.1 vcl (va_A ([] ++ pl) sz) (fun (u : va_W) => [] ++ u)) (va_A ([] ++ pl) sz)) 0 0 (va_A ([] ++ pl) sz) := by
  refine mc_entry (cc := c_M_hiddenSize) (maxL := 1) (ret := (some .int)) (by decide) rfl (Nat.le_of_ble_eq_true rfl) ?_
  intro p e s m args below meth c ls F hr hlk hnm hsz hP hD hE hA hl
  obtain ⟨hx, hb, hml, hown, hts⟩ := id F
  have hK := hE.1
  generalize va_A ([] ++ pl) sz = A at hD hE hA ⊢
  have hS : va_S A s.heap s.heap [] := va_S.rf
  have hl : lv_has ls 1 [(0, .int (nI 2))] := hl
  refine lv_iload_n hx hb dM_hiddenSize_0 rfl (lv_at hl 0 rfl) ?_
  refine lv_iconst (v := nI 3) hx hb dM_hiddenSize_1 (by decide) ?_
  refine mi_ge (tgt := 12) hx hb dM_hiddenSize_2 (by decide) (by omega) (by omega) (fun h21 => absurd h21 (by omega)) (fun h21 => ?_)
  refine lv_iload_n hx hb dM_hiddenSize_5 rfl (lv_at hl 0 rfl) ?_
  refine mp_i (cx := []) (wr := []) hP hD hS hA [] [] rfl rfl rfl (by decide) (va_runS (As := [.int (nI 2)]) (rest := []) F (t_ME_hiddenSize_2 l g _ T xs pl hO hU  ) (va_cwS 1 hts (wg_app (wg_c kw_1750 (wg_c kw_1751 (wg_c kw_11 wg_n))) kw_1752) rfl rfl rfl (by decide +kernel) ⟨by decide, by decide⟩) (pp_S (en_ok g) hP hD hS hA hE [] rfl rfl) rfl rfl hl.1 rfl (lv_room (Nat.le_of_ble_eq_true rfl)) dM_hiddenSize_6 ⟨by omega, by omega⟩) (fun r21 pl H locs hu21 hP hD hS => ?_)
  obtain ⟨hq21, hO⟩ := hu21
  have hP : va_P g.1 vcl ([] ++ pl) _ := hP
  have hD : va_D _ ([] ++ pl) := hD
  obtain rfl := hq21
  refine W.widen (k := 0) (n := 0) (by omega) (by omega) ?_
  refine lv_goto (tgt := 18) hx hb dM_hiddenSize_9 (by decide) ?_
  exact mp_iret hx hb hr hlk hP hD hS pl ⟨rfl, hO⟩ [] rfl rfl rfl (by omega) (by omega) dM_hiddenSize_18
set_option maxHeartbeats 4000000 in
set_option maxRecDepth 100000 in
theorem t_M_hiddenSize_3 (l : Launch) (g : Gd) (sz : Nat) (T : Ty) (xs : List Nat) (pl : va_W) (hO : okx g T xs pl) (hU : uni T)  : Met l y_M_hiddenSize w_M_hiddenSize ({ frames := 1, cells := 0, slots := 0, locals := 20 } : Room) (va_Pc [.int (nI 3)] (pr (en g) g.1 vcl sz ([] ++ pl))) (va_Qi (fun (r : Int32) (u : va_W) => (r = nI 2560) ∧ okx g T xs u) (po g.1 vcl (va_A ([] ++ pl) sz) (fun (u : va_W) => [] ++ u)) (va_A ([] ++ pl) sz)) 0 0 (va_A ([] ++ pl) sz) := by
  refine mc_entry (cc := c_M_hiddenSize) (maxL := 1) (ret := (some .int)) (by decide) rfl (Nat.le_of_ble_eq_true rfl) ?_
  intro p e s m args below meth c ls F hr hlk hnm hsz hP hD hE hA hl
  obtain ⟨hx, hb, hml, hown, hts⟩ := id F
  have hK := hE.1
  generalize va_A ([] ++ pl) sz = A at hD hE hA ⊢
  have hS : va_S A s.heap s.heap [] := va_S.rf
  have hl : lv_has ls 1 [(0, .int (nI 3))] := hl
  refine lv_iload_n hx hb dM_hiddenSize_0 rfl (lv_at hl 0 rfl) ?_
  refine lv_iconst (v := nI 3) hx hb dM_hiddenSize_1 (by decide) ?_
  refine mi_ge (tgt := 12) hx hb dM_hiddenSize_2 (by decide) (by omega) (by omega) (fun h21 => ?_) (fun h21 => absurd h21 (by omega))
  refine lv_iload_n hx hb dM_hiddenSize_12 rfl (lv_at hl 0 rfl) ?_
  refine lv_iconst (v := nI 3) hx hb dM_hiddenSize_13 (by decide) ?_
  refine mi_isub hx hb dM_hiddenSize_14 (by omega) ?_
  refine mi_as (show nI (3 - 3) = nI 0 from rfl) ?_
  refine mp_i (cx := []) (wr := []) hP hD hS hA [] [] rfl rfl rfl (by decide) (va_runS (As := [.int (nI 0)]) (rest := []) F (t_MH_hiddenSize_0 l g _ T xs pl hO hU  ) (va_cwS 1 hts (wg_app (wg_c kw_1753 (wg_c kw_1754 (wg_c kw_13 wg_n))) kw_1755) rfl rfl rfl (by decide +kernel) ⟨by decide, by decide⟩) (pp_S (en_ok g) hP hD hS hA hE [] rfl rfl) rfl rfl hl.1 rfl (lv_room (Nat.le_of_ble_eq_true rfl)) dM_hiddenSize_15 ⟨by omega, by omega⟩) (fun r21 pl H locs hu21 hP hD hS => ?_)
  obtain ⟨hq21, hO⟩ := hu21
  have hP : va_P g.1 vcl ([] ++ pl) _ := hP
  have hD : va_D _ ([] ++ pl) := hD
  obtain rfl := hq21
  refine W.widen (k := 0) (n := 0) (by omega) (by omega) ?_
  exact mp_iret hx hb hr hlk hP hD hS pl ⟨rfl, hO⟩ [] rfl rfl rfl (by omega) (by omega) dM_hiddenSize_18
set_option maxHeartbeats 4000000 in
set_option maxRecDepth 100000 in
theorem t_M_hiddenSize_4 (l : Launch) (g : Gd) (sz : Nat) (T : Ty) (xs : List Nat) (pl : va_W) (hO : okx g T xs pl) (hU : uni T)  : Met l y_M_hiddenSize w_M_hiddenSize ({ frames := 1, cells := 0, slots := 0, locals := 20 } : Room) (va_Pc [.int (nI 4)] (pr (en g) g.1 vcl sz ([] ++ pl))) (va_Qi (fun (r : Int32) (u : va_W) => (r = nI 4032) ∧ okx g T xs u) (po g.1 vcl (va_A ([] ++ pl) sz) (fun (u : va_W) => [] ++ u)) (va_A ([] ++ pl) sz)) 0 0 (va_A ([] ++ pl) sz) := by
  refine mc_entry (cc := c_M_hiddenSize) (maxL := 1) (ret := (some .int)) (by decide) rfl (Nat.le_of_ble_eq_true rfl) ?_
  intro p e s m args below meth c ls F hr hlk hnm hsz hP hD hE hA hl
  obtain ⟨hx, hb, hml, hown, hts⟩ := id F
  have hK := hE.1
  generalize va_A ([] ++ pl) sz = A at hD hE hA ⊢
  have hS : va_S A s.heap s.heap [] := va_S.rf
  have hl : lv_has ls 1 [(0, .int (nI 4))] := hl
  refine lv_iload_n hx hb dM_hiddenSize_0 rfl (lv_at hl 0 rfl) ?_
  refine lv_iconst (v := nI 3) hx hb dM_hiddenSize_1 (by decide) ?_
  refine mi_ge (tgt := 12) hx hb dM_hiddenSize_2 (by decide) (by omega) (by omega) (fun h21 => ?_) (fun h21 => absurd h21 (by omega))
  refine lv_iload_n hx hb dM_hiddenSize_12 rfl (lv_at hl 0 rfl) ?_
  refine lv_iconst (v := nI 3) hx hb dM_hiddenSize_13 (by decide) ?_
  refine mi_isub hx hb dM_hiddenSize_14 (by omega) ?_
  refine mi_as (show nI (4 - 3) = nI 1 from rfl) ?_
  refine mp_i (cx := []) (wr := []) hP hD hS hA [] [] rfl rfl rfl (by decide) (va_runS (As := [.int (nI 1)]) (rest := []) F (t_MH_hiddenSize_1 l g _ T xs pl hO hU  ) (va_cwS 1 hts (wg_app (wg_c kw_1753 (wg_c kw_1754 (wg_c kw_13 wg_n))) kw_1755) rfl rfl rfl (by decide +kernel) ⟨by decide, by decide⟩) (pp_S (en_ok g) hP hD hS hA hE [] rfl rfl) rfl rfl hl.1 rfl (lv_room (Nat.le_of_ble_eq_true rfl)) dM_hiddenSize_15 ⟨by omega, by omega⟩) (fun r21 pl H locs hu21 hP hD hS => ?_)
  obtain ⟨hq21, hO⟩ := hu21
  have hP : va_P g.1 vcl ([] ++ pl) _ := hP
  have hD : va_D _ ([] ++ pl) := hD
  obtain rfl := hq21
  refine W.widen (k := 0) (n := 0) (by omega) (by omega) ?_
  exact mp_iret hx hb hr hlk hP hD hS pl ⟨rfl, hO⟩ [] rfl rfl rfl (by omega) (by omega) dM_hiddenSize_18
set_option maxHeartbeats 4000000 in
set_option maxRecDepth 100000 in
theorem t_M_hiddenSize_5 (l : Launch) (g : Gd) (sz : Nat) (T : Ty) (xs : List Nat) (pl : va_W) (hO : okx g T xs pl) (hU : uni T)  : Met l y_M_hiddenSize w_M_hiddenSize ({ frames := 1, cells := 0, slots := 0, locals := 20 } : Room) (va_Pc [.int (nI 5)] (pr (en g) g.1 vcl sz ([] ++ pl))) (va_Qi (fun (r : Int32) (u : va_W) => (r = nI 4896) ∧ okx g T xs u) (po g.1 vcl (va_A ([] ++ pl) sz) (fun (u : va_W) => [] ++ u)) (va_A ([] ++ pl) sz)) 0 0 (va_A ([] ++ pl) sz) := by
  refine mc_entry (cc := c_M_hiddenSize) (maxL := 1) (ret := (some .int)) (by decide) rfl (Nat.le_of_ble_eq_true rfl) ?_
  intro p e s m args below meth c ls F hr hlk hnm hsz hP hD hE hA hl
  obtain ⟨hx, hb, hml, hown, hts⟩ := id F
  have hK := hE.1
  generalize va_A ([] ++ pl) sz = A at hD hE hA ⊢
  have hS : va_S A s.heap s.heap [] := va_S.rf
  have hl : lv_has ls 1 [(0, .int (nI 5))] := hl
  refine lv_iload_n hx hb dM_hiddenSize_0 rfl (lv_at hl 0 rfl) ?_
  refine lv_iconst (v := nI 3) hx hb dM_hiddenSize_1 (by decide) ?_
  refine mi_ge (tgt := 12) hx hb dM_hiddenSize_2 (by decide) (by omega) (by omega) (fun h21 => ?_) (fun h21 => absurd h21 (by omega))
  refine lv_iload_n hx hb dM_hiddenSize_12 rfl (lv_at hl 0 rfl) ?_
  refine lv_iconst (v := nI 3) hx hb dM_hiddenSize_13 (by decide) ?_
  refine mi_isub hx hb dM_hiddenSize_14 (by omega) ?_
  refine mi_as (show nI (5 - 3) = nI 2 from rfl) ?_
  refine mp_i (cx := []) (wr := []) hP hD hS hA [] [] rfl rfl rfl (by decide) (va_runS (As := [.int (nI 2)]) (rest := []) F (t_MH_hiddenSize_2 l g _ T xs pl hO hU  ) (va_cwS 1 hts (wg_app (wg_c kw_1753 (wg_c kw_1754 (wg_c kw_13 wg_n))) kw_1755) rfl rfl rfl (by decide +kernel) ⟨by decide, by decide⟩) (pp_S (en_ok g) hP hD hS hA hE [] rfl rfl) rfl rfl hl.1 rfl (lv_room (Nat.le_of_ble_eq_true rfl)) dM_hiddenSize_15 ⟨by omega, by omega⟩) (fun r21 pl H locs hu21 hP hD hS => ?_)
  obtain ⟨hq21, hO⟩ := hu21
  have hP : va_P g.1 vcl ([] ++ pl) _ := hP
  have hD : va_D _ ([] ++ pl) := hD
  obtain rfl := hq21
  refine W.widen (k := 0) (n := 0) (by omega) (by omega) ?_
  exact mp_iret hx hb hr hlk hP hD hS pl ⟨rfl, hO⟩ [] rfl rfl rfl (by omega) (by omega) dM_hiddenSize_18
set_option maxHeartbeats 4000000 in
set_option maxRecDepth 100000 in
theorem t_M_size (l : Launch) (g : Gd) (sz : Nat) (T : Ty) (pl : va_W) (hO : okx g T [] pl) (hU : uni T) (k : Nat) (sc : Int32) (h0 mt mr_ mk mo mh mse mhs msp msc mha tp rs ks : Nat) (x0 : Int32) (fS : Nat → Int32) (k_mt : T mt = some (1, 16384)) (k_mr_ : T mr_ = some (1, 8192)) (k_mk : T mk = some (1, 8192)) (k_mo : T mo = some (4, 2592)) (k_mh : T mh = some (4, 4896)) (k_mhs : T mhs = some (5, 4896)) (k_msp : T msp = some (20, 0)) (k_msc : T msc = some (23, 0)) (k_mha : T mha = some (49, 0)) (hb : tp ≤ 16384 ∧ rs ≤ 8192 ∧ ks ≤ 8) (hS5 : s5 fS) (hk : k < ks)  : Met l y_M_size w_M_size ({ frames := 2, cells := 0, slots := 0, locals := 40 } : Room) (va_Pc [.ref h0, .int (nI k), .int sc] (pr (en g) g.1 vcl sz ([(h0, .inr (8, [.int x0, .int (nI tp), .int (nI rs), .int (nI ks), .ref mt, .ref mr_, .ref mk, .ref mo, .ref mh, .ref mse, .ref mhs, .ref msp, .ref msc, .ref mha])), (mse, .inl (g.2.1 0, 8, .inl fS))] ++ pl))) (va_Qi (fun (r : Int32) (u : va_W) => (∃ z : Nat, z ≤ 4896 ∧ r = nI z ∧ (sc = 0 → z ≤ 2592)) ∧ okx g T [] u) (po g.1 vcl (va_A ([(h0, .inr (8, [.int x0, .int (nI tp), .int (nI rs), .int (nI ks), .ref mt, .ref mr_, .ref mk, .ref mo, .ref mh, .ref mse, .ref mhs, .ref msp, .ref msc, .ref mha])), (mse, .inl (g.2.1 0, 8, .inl fS))] ++ pl) sz) (fun (u : va_W) => [(h0, .inr (8, [.int x0, .int (nI tp), .int (nI rs), .int (nI ks), .ref mt, .ref mr_, .ref mk, .ref mo, .ref mh, .ref mse, .ref mhs, .ref msp, .ref msc, .ref mha])), (mse, .inl (g.2.1 0, 8, .inl fS))] ++ u)) (va_A ([(h0, .inr (8, [.int x0, .int (nI tp), .int (nI rs), .int (nI ks), .ref mt, .ref mr_, .ref mk, .ref mo, .ref mh, .ref mse, .ref mhs, .ref msp, .ref msc, .ref mha])), (mse, .inl (g.2.1 0, 8, .inl fS))] ++ pl) sz)) 0 0 (va_A ([(h0, .inr (8, [.int x0, .int (nI tp), .int (nI rs), .int (nI ks), .ref mt, .ref mr_, .ref mk, .ref mo, .ref mh, .ref mse, .ref mhs, .ref msp, .ref msc, .ref mha])), (mse, .inl (g.2.1 0, 8, .inl fS))] ++ pl) sz) := by
  refine mc_entry (cc := c_M_size) (maxL := 3) (ret := (some .int)) (by decide) rfl (Nat.le_of_ble_eq_true rfl) ?_
  intro p e s m args below meth c ls F hr hlk hnm hsz hP hD hE hA hl
  obtain ⟨hx, hb, hml, hown, hts⟩ := id F
  have hK := hE.1
  generalize va_A ([(h0, .inr (8, [.int x0, .int (nI tp), .int (nI rs), .int (nI ks), .ref mt, .ref mr_, .ref mk, .ref mo, .ref mh, .ref mse, .ref mhs, .ref msp, .ref msc, .ref mha])), (mse, .inl (g.2.1 0, 8, .inl fS))] ++ pl) sz = A at hD hE hA ⊢
  have hS : va_S A s.heap s.heap [] := va_S.rf
  have hl : lv_has ls 3 [(0, .ref h0), (1, .int (nI k)), (2, .int sc)] := hl
  refine lv_iload_n hx hb dM_size_0 rfl (lv_at hl 2 rfl) ?_
  refine lv_if_eq (tgt := 13) hx hb dM_size_1 (by decide) (fun h21 => ?_) (fun h21 => ?_)
  · refine lv_aload_n hx hb dM_size_13 rfl (lv_at hl 0 rfl) ?_
    refine va_get (D := g.1) (ci := 8) (C := "LatticeKeysModel") (T := T_M) (N := 14) hx hb hts (wg_ft i_M) hown hK hP 0 rfl rfl 9 (by decide) (hts _ (wg_t kw_1535)) (fun _ h9 => h9) rfl dM_size_14 ?_
    refine lv_iload_n hx hb dM_size_17 rfl (lv_at hl 1 rfl) ?_
    refine mp_iald hx hb hK hP 1 0 rfl rfl (by omega) (by decide) dM_size_18 ?_
    obtain ⟨y21, hy21, ey21⟩ := hS5 k (by omega)
    match y21, hy21, ey21 with
    | 0, _, ey21 =>
      refine mi_as ey21 ?_
      refine mp_i (cx := []) (wr := [(h0, .inr (8, [.int x0, .int (nI tp), .int (nI rs), .int (nI ks), .ref mt, .ref mr_, .ref mk, .ref mo, .ref mh, .ref mse, .ref mhs, .ref msp, .ref msc, .ref mha])), (mse, .inl (g.2.1 0, 8, .inl fS))]) hP hD hS hA [] [0, 1] rfl rfl rfl (by decide) (va_runS (As := [.int (nI 0)]) (rest := []) F (t_M_openSize_0 l g _ T [] pl hO hU  ) (va_cwS 1 hts (wg_app (wg_c kw_1764 (wg_c kw_1765 (wg_c kw_9 wg_n))) kw_1766) rfl rfl rfl (by decide +kernel) ⟨by decide, by decide⟩) (pp_S (en_ok g) hP hD hS hA hE [] rfl rfl) rfl rfl hl.1 rfl (lv_room (Nat.le_of_ble_eq_true rfl)) dM_size_19 ⟨by omega, by omega⟩) (fun r21 pl H locs hu21 hP hD hS => ?_)
      obtain ⟨hq21, hO⟩ := hu21
      have hP : va_P g.1 vcl ([(h0, .inr (8, [.int x0, .int (nI tp), .int (nI rs), .int (nI ks), .ref mt, .ref mr_, .ref mk, .ref mo, .ref mh, .ref mse, .ref mhs, .ref msp, .ref msc, .ref mha])), (mse, .inl (g.2.1 0, 8, .inl fS))] ++ pl) _ := hP
      have hD : va_D _ ([(h0, .inr (8, [.int x0, .int (nI tp), .int (nI rs), .int (nI ks), .ref mt, .ref mr_, .ref mk, .ref mo, .ref mh, .ref mse, .ref mhs, .ref msp, .ref msc, .ref mha])), (mse, .inl (g.2.1 0, 8, .inl fS))] ++ pl) := hD
      obtain rfl := hq21
      refine W.widen (k := 0) (n := 0) (by omega) (by omega) ?_
      exact mp_iret hx hb hr hlk hP hD hS pl ⟨⟨800, by omega, rfl, (fun _ => by omega)⟩, hO⟩ [0, 1] rfl rfl rfl (by omega) (by omega) dM_size_22
    | 1, _, ey21 =>
      refine mi_as ey21 ?_
      refine mp_i (cx := []) (wr := [(h0, .inr (8, [.int x0, .int (nI tp), .int (nI rs), .int (nI ks), .ref mt, .ref mr_, .ref mk, .ref mo, .ref mh, .ref mse, .ref mhs, .ref msp, .ref msc, .ref mha])), (mse, .inl (g.2.1 0, 8, .inl fS))]) hP hD hS hA [] [0, 1] rfl rfl rfl (by decide) (va_runS (As := [.int (nI 1)]) (rest := []) F (t_M_openSize_1 l g _ T [] pl hO hU  ) (va_cwS 1 hts (wg_app (wg_c kw_1764 (wg_c kw_1765 (wg_c kw_9 wg_n))) kw_1766) rfl rfl rfl (by decide +kernel) ⟨by decide, by decide⟩) (pp_S (en_ok g) hP hD hS hA hE [] rfl rfl) rfl rfl hl.1 rfl (lv_room (Nat.le_of_ble_eq_true rfl)) dM_size_19 ⟨by omega, by omega⟩) (fun r22 pl H locs hu22 hP hD hS => ?_)
      obtain ⟨hq22, hO⟩ := hu22
      have hP : va_P g.1 vcl ([(h0, .inr (8, [.int x0, .int (nI tp), .int (nI rs), .int (nI ks), .ref mt, .ref mr_, .ref mk, .ref mo, .ref mh, .ref mse, .ref mhs, .ref msp, .ref msc, .ref mha])), (mse, .inl (g.2.1 0, 8, .inl fS))] ++ pl) _ := hP
      have hD : va_D _ ([(h0, .inr (8, [.int x0, .int (nI tp), .int (nI rs), .int (nI ks), .ref mt, .ref mr_, .ref mk, .ref mo, .ref mh, .ref mse, .ref mhs, .ref msp, .ref msc, .ref mha])), (mse, .inl (g.2.1 0, 8, .inl fS))] ++ pl) := hD
      obtain rfl := hq22
      refine W.widen (k := 0) (n := 0) (by omega) (by omega) ?_
      exact mp_iret hx hb hr hlk hP hD hS pl ⟨⟨1184, by omega, rfl, (fun _ => by omega)⟩, hO⟩ [0, 1] rfl rfl rfl (by omega) (by omega) dM_size_22
    | 2, _, ey21 =>
      refine mi_as ey21 ?_
      refine mp_i (cx := []) (wr := [(h0, .inr (8, [.int x0, .int (nI tp), .int (nI rs), .int (nI ks), .ref mt, .ref mr_, .ref mk, .ref mo, .ref mh, .ref mse, .ref mhs, .ref msp, .ref msc, .ref mha])), (mse, .inl (g.2.1 0, 8, .inl fS))]) hP hD hS hA [] [0, 1] rfl rfl rfl (by decide) (va_runS (As := [.int (nI 2)]) (rest := []) F (t_M_openSize_2 l g _ T [] pl hO hU  ) (va_cwS 1 hts (wg_app (wg_c kw_1764 (wg_c kw_1765 (wg_c kw_9 wg_n))) kw_1766) rfl rfl rfl (by decide +kernel) ⟨by decide, by decide⟩) (pp_S (en_ok g) hP hD hS hA hE [] rfl rfl) rfl rfl hl.1 rfl (lv_room (Nat.le_of_ble_eq_true rfl)) dM_size_19 ⟨by omega, by omega⟩) (fun r23 pl H locs hu23 hP hD hS => ?_)
      obtain ⟨hq23, hO⟩ := hu23
      have hP : va_P g.1 vcl ([(h0, .inr (8, [.int x0, .int (nI tp), .int (nI rs), .int (nI ks), .ref mt, .ref mr_, .ref mk, .ref mo, .ref mh, .ref mse, .ref mhs, .ref msp, .ref msc, .ref mha])), (mse, .inl (g.2.1 0, 8, .inl fS))] ++ pl) _ := hP
      have hD : va_D _ ([(h0, .inr (8, [.int x0, .int (nI tp), .int (nI rs), .int (nI ks), .ref mt, .ref mr_, .ref mk, .ref mo, .ref mh, .ref mse, .ref mhs, .ref msp, .ref msc, .ref mha])), (mse, .inl (g.2.1 0, 8, .inl fS))] ++ pl) := hD
      obtain rfl := hq23
      refine W.widen (k := 0) (n := 0) (by omega) (by omega) ?_
      exact mp_iret hx hb hr hlk hP hD hS pl ⟨⟨1568, by omega, rfl, (fun _ => by omega)⟩, hO⟩ [0, 1] rfl rfl rfl (by omega) (by omega) dM_size_22
    | 3, _, ey21 =>
      refine mi_as ey21 ?_
      refine mp_i (cx := []) (wr := [(h0, .inr (8, [.int x0, .int (nI tp), .int (nI rs), .int (nI ks), .ref mt, .ref mr_, .ref mk, .ref mo, .ref mh, .ref mse, .ref mhs, .ref msp, .ref msc, .ref mha])), (mse, .inl (g.2.1 0, 8, .inl fS))]) hP hD hS hA [] [0, 1] rfl rfl rfl (by decide) (va_runS (As := [.int (nI 3)]) (rest := []) F (t_M_openSize_3 l g _ T [] pl hO hU  ) (va_cwS 1 hts (wg_app (wg_c kw_1764 (wg_c kw_1765 (wg_c kw_9 wg_n))) kw_1766) rfl rfl rfl (by decide +kernel) ⟨by decide, by decide⟩) (pp_S (en_ok g) hP hD hS hA hE [] rfl rfl) rfl rfl hl.1 rfl (lv_room (Nat.le_of_ble_eq_true rfl)) dM_size_19 ⟨by omega, by omega⟩) (fun r24 pl H locs hu24 hP hD hS => ?_)
      obtain ⟨hq24, hO⟩ := hu24
      have hP : va_P g.1 vcl ([(h0, .inr (8, [.int x0, .int (nI tp), .int (nI rs), .int (nI ks), .ref mt, .ref mr_, .ref mk, .ref mo, .ref mh, .ref mse, .ref mhs, .ref msp, .ref msc, .ref mha])), (mse, .inl (g.2.1 0, 8, .inl fS))] ++ pl) _ := hP
      have hD : va_D _ ([(h0, .inr (8, [.int x0, .int (nI tp), .int (nI rs), .int (nI ks), .ref mt, .ref mr_, .ref mk, .ref mo, .ref mh, .ref mse, .ref mhs, .ref msp, .ref msc, .ref mha])), (mse, .inl (g.2.1 0, 8, .inl fS))] ++ pl) := hD
      obtain rfl := hq24
      refine W.widen (k := 0) (n := 0) (by omega) (by omega) ?_
      exact mp_iret hx hb hr hlk hP hD hS pl ⟨⟨1312, by omega, rfl, (fun _ => by omega)⟩, hO⟩ [0, 1] rfl rfl rfl (by omega) (by omega) dM_size_22
    | 4, _, ey21 =>
      refine mi_as ey21 ?_
      refine mp_i (cx := []) (wr := [(h0, .inr (8, [.int x0, .int (nI tp), .int (nI rs), .int (nI ks), .ref mt, .ref mr_, .ref mk, .ref mo, .ref mh, .ref mse, .ref mhs, .ref msp, .ref msc, .ref mha])), (mse, .inl (g.2.1 0, 8, .inl fS))]) hP hD hS hA [] [0, 1] rfl rfl rfl (by decide) (va_runS (As := [.int (nI 4)]) (rest := []) F (t_M_openSize_4 l g _ T [] pl hO hU  ) (va_cwS 1 hts (wg_app (wg_c kw_1764 (wg_c kw_1765 (wg_c kw_9 wg_n))) kw_1766) rfl rfl rfl (by decide +kernel) ⟨by decide, by decide⟩) (pp_S (en_ok g) hP hD hS hA hE [] rfl rfl) rfl rfl hl.1 rfl (lv_room (Nat.le_of_ble_eq_true rfl)) dM_size_19 ⟨by omega, by omega⟩) (fun r25 pl H locs hu25 hP hD hS => ?_)
      obtain ⟨hq25, hO⟩ := hu25
      have hP : va_P g.1 vcl ([(h0, .inr (8, [.int x0, .int (nI tp), .int (nI rs), .int (nI ks), .ref mt, .ref mr_, .ref mk, .ref mo, .ref mh, .ref mse, .ref mhs, .ref msp, .ref msc, .ref mha])), (mse, .inl (g.2.1 0, 8, .inl fS))] ++ pl) _ := hP
      have hD : va_D _ ([(h0, .inr (8, [.int x0, .int (nI tp), .int (nI rs), .int (nI ks), .ref mt, .ref mr_, .ref mk, .ref mo, .ref mh, .ref mse, .ref mhs, .ref msp, .ref msc, .ref mha])), (mse, .inl (g.2.1 0, 8, .inl fS))] ++ pl) := hD
      obtain rfl := hq25
      refine W.widen (k := 0) (n := 0) (by omega) (by omega) ?_
      exact mp_iret hx hb hr hlk hP hD hS pl ⟨⟨1952, by omega, rfl, (fun _ => by omega)⟩, hO⟩ [0, 1] rfl rfl rfl (by omega) (by omega) dM_size_22
    | 5, _, ey21 =>
      refine mi_as ey21 ?_
      refine mp_i (cx := []) (wr := [(h0, .inr (8, [.int x0, .int (nI tp), .int (nI rs), .int (nI ks), .ref mt, .ref mr_, .ref mk, .ref mo, .ref mh, .ref mse, .ref mhs, .ref msp, .ref msc, .ref mha])), (mse, .inl (g.2.1 0, 8, .inl fS))]) hP hD hS hA [] [0, 1] rfl rfl rfl (by decide) (va_runS (As := [.int (nI 5)]) (rest := []) F (t_M_openSize_5 l g _ T [] pl hO hU  ) (va_cwS 1 hts (wg_app (wg_c kw_1764 (wg_c kw_1765 (wg_c kw_9 wg_n))) kw_1766) rfl rfl rfl (by decide +kernel) ⟨by decide, by decide⟩) (pp_S (en_ok g) hP hD hS hA hE [] rfl rfl) rfl rfl hl.1 rfl (lv_room (Nat.le_of_ble_eq_true rfl)) dM_size_19 ⟨by omega, by omega⟩) (fun r26 pl H locs hu26 hP hD hS => ?_)
      obtain ⟨hq26, hO⟩ := hu26
      have hP : va_P g.1 vcl ([(h0, .inr (8, [.int x0, .int (nI tp), .int (nI rs), .int (nI ks), .ref mt, .ref mr_, .ref mk, .ref mo, .ref mh, .ref mse, .ref mhs, .ref msp, .ref msc, .ref mha])), (mse, .inl (g.2.1 0, 8, .inl fS))] ++ pl) _ := hP
      have hD : va_D _ ([(h0, .inr (8, [.int x0, .int (nI tp), .int (nI rs), .int (nI ks), .ref mt, .ref mr_, .ref mk, .ref mo, .ref mh, .ref mse, .ref mhs, .ref msp, .ref msc, .ref mha])), (mse, .inl (g.2.1 0, 8, .inl fS))] ++ pl) := hD
      obtain rfl := hq26
      refine W.widen (k := 0) (n := 0) (by omega) (by omega) ?_
      exact mp_iret hx hb hr hlk hP hD hS pl ⟨⟨2592, by omega, rfl, (fun _ => by omega)⟩, hO⟩ [0, 1] rfl rfl rfl (by omega) (by omega) dM_size_22
    | _ + 6, hy21, _ => exact absurd hy21 (by omega)
  · refine lv_aload_n hx hb dM_size_4 rfl (lv_at hl 0 rfl) ?_
    refine va_get (D := g.1) (ci := 8) (C := "LatticeKeysModel") (T := T_M) (N := 14) hx hb hts (wg_ft i_M) hown hK hP 0 rfl rfl 10 (by decide) (hts _ (wg_t kw_1536)) (fun _ h9 => h9) rfl dM_size_5 ?_
    refine lv_iload_n hx hb dM_size_8 rfl (lv_at hl 1 rfl) ?_
    refine ty_iald5 hx hb hK hO k_mhs (nxg clo_nil k_mhs rfl) hP (by omega) dM_size_9 (fun z21 hz21 => ?_)
    refine lv_goto (tgt := 22) hx hb dM_size_10 (by decide) ?_
    exact mp_iret hx hb hr hlk hP hD hS pl ⟨⟨z21, by omega, rfl, (fun h9 => absurd h9 h21)⟩, hO⟩ [0, 1] rfl rfl rfl (by omega) (by omega) dM_size_22
set_option maxHeartbeats 4000000 in
set_option maxRecDepth 100000 in
theorem t_M_made (l : Launch) (g : Gd) (sz : Nat) (T : Ty) (pl : va_W) (hO : okx g T [] pl) (hU : uni T) (st hb_ : Nat) (h0 mt mr_ mk mo mh mse mhs msp msc mha tp rs ks : Nat) (x0 : Int32) (fS : Nat → Int32) (k_mt : T mt = some (1, 16384)) (k_mr_ : T mr_ = some (1, 8192)) (k_mk : T mk = some (1, 8192)) (k_mo : T mo = some (4, 2592)) (k_mh : T mh = some (4, 4896)) (k_mhs : T mhs = some (5, 4896)) (k_msp : T msp = some (20, 0)) (k_msc : T msc = some (23, 0)) (k_mha : T mha = some (49, 0)) (hb : tp ≤ 16384 ∧ rs ≤ 8192 ∧ ks ≤ 8) (hS5 : s5 fS) (h1 : st ≤ 5) (h2 : hb_ ≤ 4896) (h3 : ks < 8)  : Met l y_M_made w_M_made ({ frames := 0, cells := 0, slots := 0, locals := 0 } : Room) (va_Pc [.ref h0, .int (nI st), .int (nI hb_)] (pr (en g) g.1 vcl sz ([(h0, .inr (8, [.int x0, .int (nI tp), .int (nI rs), .int (nI ks), .ref mt, .ref mr_, .ref mk, .ref mo, .ref mh, .ref mse, .ref mhs, .ref msp, .ref msc, .ref mha])), (mse, .inl (g.2.1 0, 8, .inl fS))] ++ pl))) (va_Qi (fun (r : Int32) (u : (Int32 × Nat × Nat × Nat × (Nat → Int32)) × va_W) => (u.1.2.1 ≤ 16384 ∧ u.1.2.2.1 ≤ 8192 ∧ u.1.2.2.2.1 ≤ 8 ∧ s5 u.1.2.2.2.2) ∧ okx g T [] u.2) (po g.1 vcl (va_A ([(h0, .inr (8, [.int x0, .int (nI tp), .int (nI rs), .int (nI ks), .ref mt, .ref mr_, .ref mk, .ref mo, .ref mh, .ref mse, .ref mhs, .ref msp, .ref msc, .ref mha])), (mse, .inl (g.2.1 0, 8, .inl fS))] ++ pl) sz) (fun (u : (Int32 × Nat × Nat × Nat × (Nat → Int32)) × va_W) => [(h0, .inr (8, [.int u.1.1, .int (nI (u.1.2.1)), .int (nI (u.1.2.2.1)), .int (nI (u.1.2.2.2.1)), .ref mt, .ref mr_, .ref mk, .ref mo, .ref mh, .ref mse, .ref mhs, .ref msp, .ref msc, .ref mha])), (mse, .inl (g.2.1 0, 8, .inl ((u.1.2.2.2.2))))] ++ u.2)) (va_A ([(h0, .inr (8, [.int x0, .int (nI tp), .int (nI rs), .int (nI ks), .ref mt, .ref mr_, .ref mk, .ref mo, .ref mh, .ref mse, .ref mhs, .ref msp, .ref msc, .ref mha])), (mse, .inl (g.2.1 0, 8, .inl fS))] ++ pl) sz)) 0 0 (va_A ([(h0, .inr (8, [.int x0, .int (nI tp), .int (nI rs), .int (nI ks), .ref mt, .ref mr_, .ref mk, .ref mo, .ref mh, .ref mse, .ref mhs, .ref msp, .ref msc, .ref mha])), (mse, .inl (g.2.1 0, 8, .inl fS))] ++ pl) sz) := by
  refine mc_entry (cc := c_M_made) (maxL := 3) (ret := (some .int)) (by decide) rfl (Nat.le_of_ble_eq_true rfl) ?_
  intro p e s m args below meth c ls F hr hlk hnm hsz hP hD hE hA hl
  obtain ⟨hx, hb, hml, hown, hts⟩ := id F
  have hK := hE.1
  generalize va_A ([(h0, .inr (8, [.int x0, .int (nI tp), .int (nI rs), .int (nI ks), .ref mt, .ref mr_, .ref mk, .ref mo, .ref mh, .ref mse, .ref mhs, .ref msp, .ref msc, .ref mha])), (mse, .inl (g.2.1 0, 8, .inl fS))] ++ pl) sz = A at hD hE hA ⊢
  have hS : va_S A s.heap s.heap [] := va_S.rf
  have hl : lv_has ls 3 [(0, .ref h0), (1, .int (nI st)), (2, .int (nI hb_))] := hl
  refine lv_aload_n hx hb dM_made_0 rfl (lv_at hl 0 rfl) ?_
  refine va_get (D := g.1) (ci := 8) (C := "LatticeKeysModel") (T := T_M) (N := 14) hx hb hts (wg_ft i_M) hown hK hP 0 rfl rfl 9 (by decide) (hts _ (wg_t kw_1535)) (fun _ h9 => h9) rfl dM_made_1 ?_
  refine lv_aload_n hx hb dM_made_4 rfl (lv_at hl 0 rfl) ?_
  refine va_get (D := g.1) (ci := 8) (C := "LatticeKeysModel") (T := T_M) (N := 14) hx hb hts (wg_ft i_M) hown hK hP 0 rfl rfl 3 (by decide) (hts _ (wg_t kw_1529)) (fun _ h9 => h9) rfl dM_made_5 ?_
  refine lv_iload_n hx hb dM_made_8 rfl (lv_at hl 1 rfl) ?_
  refine mp_iast hx hb hK hP hD hS 1 0 rfl rfl (by omega) (by decide) dM_made_9 (fun H locs hP hD hS => ?_)
  have hP : va_P g.1 vcl ([(h0, .inr (8, [.int x0, .int (nI tp), .int (nI rs), .int (nI ks), .ref mt, .ref mr_, .ref mk, .ref mo, .ref mh, .ref mse, .ref mhs, .ref msp, .ref msc, .ref mha])), (mse, .inl (g.2.1 0, 8, .inl ((upd fS ks (nI st)))))] ++ pl) _ := hP
  have hD : va_D _ ([(h0, .inr (8, [.int x0, .int (nI tp), .int (nI rs), .int (nI ks), .ref mt, .ref mr_, .ref mk, .ref mo, .ref mh, .ref mse, .ref mhs, .ref msp, .ref msc, .ref mha])), (mse, .inl (g.2.1 0, 8, .inl ((upd fS ks (nI st)))))] ++ pl) := hD
  refine lv_aload_n hx hb dM_made_10 rfl (lv_at hl 0 rfl) ?_
  refine va_get (D := g.1) (ci := 8) (C := "LatticeKeysModel") (T := T_M) (N := 14) hx hb hts (wg_ft i_M) hown hK hP 0 rfl rfl 10 (by decide) (hts _ (wg_t kw_1536)) (fun _ h9 => h9) rfl dM_made_11 ?_
  refine lv_aload_n hx hb dM_made_14 rfl (lv_at hl 0 rfl) ?_
  refine va_get (D := g.1) (ci := 8) (C := "LatticeKeysModel") (T := T_M) (N := 14) hx hb hts (wg_ft i_M) hown hK hP 0 rfl rfl 3 (by decide) (hts _ (wg_t kw_1529)) (fun _ h9 => h9) rfl dM_made_15 ?_
  refine lv_iload_n hx hb dM_made_18 rfl (lv_at hl 2 rfl) ?_
  refine ty_iast5 hx hb hK hO k_mhs (nxg clo_nil k_mhs rfl) hP hD hS (by omega) (by omega) dM_made_19 (fun pl H locs hO hP hD hS => ?_)
  refine lv_aload_n hx hb dM_made_20 rfl (lv_at hl 0 rfl) ?_
  refine lv_dup hx hb dM_made_21 rfl ?_
  refine va_get (D := g.1) (ci := 8) (C := "LatticeKeysModel") (T := T_M) (N := 14) hx hb hts (wg_ft i_M) hown hK hP 0 rfl rfl 3 (by decide) (hts _ (wg_t kw_1529)) (fun _ h9 => h9) rfl dM_made_22 ?_
  refine lv_iconst (v := nI 1) hx hb dM_made_25 (by decide) ?_
  refine mi_iadd hx hb dM_made_26 ?_
  refine va_put (D := g.1) (ci := 8) (v := .int (nI (ks + 1))) (ty := .int) (C := "LatticeKeysModel") (T := T_M) (N := 14) hx hb hts (wg_ft i_M) ty_M k_M n_M hown hK hP hD hS 0 rfl rfl 3 (by decide) (hts _ (wg_t kw_1529)) (fun _ h9 => h9) rfl (by decide +kernel) rfl rfl (Nat.le_of_ble_eq_true rfl) dM_made_27 (fun H locs hP hD hS => ?_)
  have hP : va_P g.1 vcl ([(h0, .inr (8, [.int x0, .int (nI tp), .int (nI rs), .int (nI (ks + 1)), .ref mt, .ref mr_, .ref mk, .ref mo, .ref mh, .ref mse, .ref mhs, .ref msp, .ref msc, .ref mha])), (mse, .inl (g.2.1 0, 8, .inl ((upd fS ks (nI st)))))] ++ pl) _ := hP
  have hD : va_D _ ([(h0, .inr (8, [.int x0, .int (nI tp), .int (nI rs), .int (nI (ks + 1)), .ref mt, .ref mr_, .ref mk, .ref mo, .ref mh, .ref mse, .ref mhs, .ref msp, .ref msc, .ref mha])), (mse, .inl (g.2.1 0, 8, .inl ((upd fS ks (nI st)))))] ++ pl) := hD
  refine lv_aload_n hx hb dM_made_30 rfl (lv_at hl 0 rfl) ?_
  refine lv_iconst (v := nI 0) hx hb dM_made_31 (by decide) ?_
  refine va_put (D := g.1) (ci := 8) (v := .int (nI 0)) (ty := .int) (C := "LatticeKeysModel") (T := T_M) (N := 14) hx hb hts (wg_ft i_M) ty_M k_M n_M hown hK hP hD hS 0 rfl rfl 1 (by decide) (hts _ (wg_t kw_1527)) (fun _ h9 => h9) rfl (by decide +kernel) rfl rfl (Nat.le_of_ble_eq_true rfl) dM_made_32 (fun H locs hP hD hS => ?_)
  have hP : va_P g.1 vcl ([(h0, .inr (8, [.int x0, .int (nI 0), .int (nI rs), .int (nI (ks + 1)), .ref mt, .ref mr_, .ref mk, .ref mo, .ref mh, .ref mse, .ref mhs, .ref msp, .ref msc, .ref mha])), (mse, .inl (g.2.1 0, 8, .inl ((upd fS ks (nI st)))))] ++ pl) _ := hP
  have hD : va_D _ ([(h0, .inr (8, [.int x0, .int (nI 0), .int (nI rs), .int (nI (ks + 1)), .ref mt, .ref mr_, .ref mk, .ref mo, .ref mh, .ref mse, .ref mhs, .ref msp, .ref msc, .ref mha])), (mse, .inl (g.2.1 0, 8, .inl ((upd fS ks (nI st)))))] ++ pl) := hD
  refine lv_aload_n hx hb dM_made_35 rfl (lv_at hl 0 rfl) ?_
  refine va_get (D := g.1) (ci := 8) (C := "LatticeKeysModel") (T := T_M) (N := 14) hx hb hts (wg_ft i_M) hown hK hP 0 rfl rfl 3 (by decide) (hts _ (wg_t kw_1529)) (fun _ h9 => h9) rfl dM_made_36 ?_
  refine lv_iconst (v := nI 1) hx hb dM_made_39 (by decide) ?_
  refine mi_isub hx hb dM_made_40 (by omega) ?_
  exact mp_iret hx hb hr hlk hP hD hS ((x0, 0, rs, ks + 1, (upd fS ks (nI st))), pl) ⟨⟨(by show 0 ≤ 16384; omega), (by show rs ≤ 8192; omega), (by show ks + 1 ≤ 8; omega), (s5_up hS5 (by omega))⟩, hO⟩ [0, 1] rfl rfl rfl (by omega) (by omega) dM_made_41
set_option maxHeartbeats 4000000 in
set_option maxRecDepth 100000 in
theorem t_M_part (l : Launch) (g : Gd) (sz : Nat) (T : Ty) (pl : va_W) (hO : okx g T [] pl) (hU : uni T) (v : Int32) (sc : Int32) (v3 : Int32) (h0 mt mr_ mk mo mh mse mhs msp msc mha tp rs ks : Nat) (x0 : Int32) (fS : Nat → Int32) (k_mt : T mt = some (1, 16384)) (k_mr_ : T mr_ = some (1, 8192)) (k_mk : T mk = some (1, 8192)) (k_mo : T mo = some (4, 2592)) (k_mh : T mh = some (4, 4896)) (k_mhs : T mhs = some (5, 4896)) (k_msp : T msp = some (20, 0)) (k_msc : T msc = some (23, 0)) (k_mha : T mha = some (49, 0)) (hb : tp ≤ 16384 ∧ rs ≤ 8192 ∧ ks ≤ 8) (hS5 : s5 fS)  : Met l y_M_part w_M_part ({ frames := 3, cells := 0, slots := 0, locals := 62 } : Room) (va_Pc [.ref h0, .int v, .int sc, .int v3] (pr (en g) g.1 vcl sz ([(h0, .inr (8, [.int x0, .int (nI tp), .int (nI rs), .int (nI ks), .ref mt, .ref mr_, .ref mk, .ref mo, .ref mh, .ref mse, .ref mhs, .ref msp, .ref msc, .ref mha])), (mse, .inl (g.2.1 0, 8, .inl fS))] ++ pl))) (va_Qi (fun (r : Int32) (u : (Int32 × Nat × Nat × Nat × (Nat → Int32)) × va_W) => (u.1.2.1 ≤ 16384 ∧ u.1.2.2.1 ≤ 8192 ∧ u.1.2.2.2.1 ≤ 8 ∧ s5 u.1.2.2.2.2) ∧ okx g T [] u.2) (po g.1 vcl (va_A ([(h0, .inr (8, [.int x0, .int (nI tp), .int (nI rs), .int (nI ks), .ref mt, .ref mr_, .ref mk, .ref mo, .ref mh, .ref mse, .ref mhs, .ref msp, .ref msc, .ref mha])), (mse, .inl (g.2.1 0, 8, .inl fS))] ++ pl) sz) (fun (u : (Int32 × Nat × Nat × Nat × (Nat → Int32)) × va_W) => [(h0, .inr (8, [.int u.1.1, .int (nI (u.1.2.1)), .int (nI (u.1.2.2.1)), .int (nI (u.1.2.2.2.1)), .ref mt, .ref mr_, .ref mk, .ref mo, .ref mh, .ref mse, .ref mhs, .ref msp, .ref msc, .ref mha])), (mse, .inl (g.2.1 0, 8, .inl ((u.1.2.2.2.2))))] ++ u.2)) (va_A ([(h0, .inr (8, [.int x0, .int (nI tp), .int (nI rs), .int (nI ks), .ref mt, .ref mr_, .ref mk, .ref mo, .ref mh, .ref mse, .ref mhs, .ref msp, .ref msc, .ref mha])), (mse, .inl (g.2.1 0, 8, .inl fS))] ++ pl) sz)) 0 0 (va_A ([(h0, .inr (8, [.int x0, .int (nI tp), .int (nI rs), .int (nI ks), .ref mt, .ref mr_, .ref mk, .ref mo, .ref mh, .ref mse, .ref mhs, .ref msp, .ref msc, .ref mha])), (mse, .inl (g.2.1 0, 8, .inl fS))] ++ pl) sz) := by
  refine mc_entry (cc := c_M_part) (maxL := 4) (ret := (some .int)) (by decide) rfl (Nat.le_of_ble_eq_true rfl) ?_
  intro p e s m args below meth c ls F hr hlk hnm hsz hP hD hE hA hl
  obtain ⟨hx, hb, hml, hown, hts⟩ := id F
  have hK := hE.1
  generalize va_A ([(h0, .inr (8, [.int x0, .int (nI tp), .int (nI rs), .int (nI ks), .ref mt, .ref mr_, .ref mk, .ref mo, .ref mh, .ref mse, .ref mhs, .ref msp, .ref msc, .ref mha])), (mse, .inl (g.2.1 0, 8, .inl fS))] ++ pl) sz = A at hD hE hA ⊢
  have hS : va_S A s.heap s.heap [] := va_S.rf
  have hl : lv_has ls 4 [(0, .ref h0), (1, .int v), (2, .int sc), (3, .int v3)] := hl
  refine lv_aload_n hx hb dM_part_0 rfl (lv_at hl 0 rfl) ?_
  refine lv_iconst (v := nI 0) hx hb dM_part_1 (by decide) ?_
  refine va_put (D := g.1) (ci := 8) (v := .int (nI 0)) (ty := .int) (C := "LatticeKeysModel") (T := T_M) (N := 14) hx hb hts (wg_ft i_M) ty_M k_M n_M hown hK hP hD hS 0 rfl rfl 0 (by decide) (hts _ (wg_t kw_1526)) (fun _ h9 => h9) rfl (by decide +kernel) rfl rfl (Nat.le_of_ble_eq_true rfl) dM_part_2 (fun H locs hP hD hS => ?_)
  have hP : va_P g.1 vcl ([(h0, .inr (8, [.int (nI 0), .int (nI tp), .int (nI rs), .int (nI ks), .ref mt, .ref mr_, .ref mk, .ref mo, .ref mh, .ref mse, .ref mhs, .ref msp, .ref msc, .ref mha])), (mse, .inl (g.2.1 0, 8, .inl fS))] ++ pl) _ := hP
  have hD : va_D _ ([(h0, .inr (8, [.int (nI 0), .int (nI tp), .int (nI rs), .int (nI ks), .ref mt, .ref mr_, .ref mk, .ref mo, .ref mh, .ref mse, .ref mhs, .ref msp, .ref msc, .ref mha])), (mse, .inl (g.2.1 0, 8, .inl fS))] ++ pl) := hD
  refine lv_aload_n hx hb dM_part_5 rfl (lv_at hl 0 rfl) ?_
  refine lv_iload_n hx hb dM_part_6 rfl (lv_at hl 1 rfl) ?_
  refine mp_i (cx := [(h0, .inr (8, [.int (nI 0), .int (nI tp), .int (nI rs), .int (nI ks), .ref mt, .ref mr_, .ref mk, .ref mo, .ref mh, .ref mse, .ref mhs, .ref msp, .ref msc, .ref mha])), (mse, .inl (g.2.1 0, 8, .inl fS))]) (wr := []) hP hD hS hA [0, 1] [] rfl rfl rfl (by decide) (va_runV (As := [.int v]) (rest := []) F (t_M_none l g _ T  pl hO hU  v h0 mt mr_ mk mo mh mse mhs msp msc mha tp rs ks (nI 0) fS k_mt k_mr_ k_mk k_mo k_mh k_mhs k_msp k_msc k_mha (by omega) hS5) (cwV 1 hts (wg_app (wg_c kw_1781 (wg_c kw_1783 (wg_c ks_65 (wg_c kw_9 wg_n)))) kw_1784) rfl rfl rfl (by decide +kernel) ⟨by decide, by decide⟩) (pp_V (en_ok g) (q0 := 0) hK hP hD hS hA hE [0, 1] rfl rfl rfl rfl) rfl rfl hl.1 rfl (lv_room (Nat.le_of_ble_eq_true rfl)) dM_part_7 ⟨by omega, by omega⟩) (fun r21 pl H locs hu21 hP hD hS => ?_)
  obtain ⟨hq21, hO⟩ := hu21
  have hP : va_P g.1 vcl ([(h0, .inr (8, [.int (nI 0), .int (nI tp), .int (nI rs), .int (nI ks), .ref mt, .ref mr_, .ref mk, .ref mo, .ref mh, .ref mse, .ref mhs, .ref msp, .ref msc, .ref mha])), (mse, .inl (g.2.1 0, 8, .inl fS))] ++ pl) _ := hP
  have hD : va_D _ ([(h0, .inr (8, [.int (nI 0), .int (nI tp), .int (nI rs), .int (nI ks), .ref mt, .ref mr_, .ref mk, .ref mo, .ref mh, .ref mse, .ref mhs, .ref msp, .ref msc, .ref mha])), (mse, .inl (g.2.1 0, 8, .inl fS))] ++ pl) := hD
  refine W.widen (k := 0) (n := 0) (by omega) (by omega) ?_
  rcases hq21 with hq21 | hq21
  · obtain rfl := hq21
    refine lv_if_ne (tgt := 22) hx hb dM_part_10 (by decide) (fun h21 => ?_) (fun h21 => absurd h21 (by decide))
    refine lv_aload_n hx hb dM_part_22 rfl (lv_at hl 0 rfl) ?_
    refine lv_iconst (v := nI 1) hx hb dM_part_23 (by decide) ?_
    refine mp_i (cx := [(h0, .inr (8, [.int (nI 0), .int (nI tp), .int (nI rs), .int (nI ks), .ref mt, .ref mr_, .ref mk, .ref mo, .ref mh, .ref mse, .ref mhs, .ref msp, .ref msc, .ref mha])), (mse, .inl (g.2.1 0, 8, .inl fS))]) (wr := []) hP hD hS hA [0, 1] [] rfl rfl rfl (by decide) (va_runV (As := [.int (nI 1)]) (rest := []) F (t_M_fail l g _ T  pl hO hU  (nI 1) h0 mt mr_ mk mo mh mse mhs msp msc mha tp rs ks (nI 0) fS k_mt k_mr_ k_mk k_mo k_mh k_mhs k_msp k_msc k_mha (by omega) hS5) (cwV 1 hts (wg_app (wg_c kw_1577 (wg_c kw_1579 (wg_c ks_50 (wg_c kw_9 wg_n)))) kw_1580) rfl rfl rfl (by decide +kernel) ⟨by decide, by decide⟩) (pp_V (en_ok g) (q0 := 0) hK hP hD hS hA hE [0, 1] rfl rfl rfl rfl) rfl rfl hl.1 rfl (lv_room (Nat.le_of_ble_eq_true rfl)) dM_part_24 ⟨by omega, by omega⟩) (fun r22 u21 H locs hu22 hP hD hS => ?_)
    obtain ⟨u22, pl⟩ := u21
    obtain ⟨hq22, hO⟩ := hu22
    obtain ⟨th21, tp21, rs21, ks21, fS21⟩ := u22
    have hP : va_P g.1 vcl ([(h0, .inr (8, [.int th21, .int (nI tp21), .int (nI rs21), .int (nI ks21), .ref mt, .ref mr_, .ref mk, .ref mo, .ref mh, .ref mse, .ref mhs, .ref msp, .ref msc, .ref mha])), (mse, .inl (g.2.1 0, 8, .inl fS21))] ++ pl) _ := hP
    have hD : va_D _ ([(h0, .inr (8, [.int th21, .int (nI tp21), .int (nI rs21), .int (nI ks21), .ref mt, .ref mr_, .ref mk, .ref mo, .ref mh, .ref mse, .ref mhs, .ref msp, .ref msc, .ref mha])), (mse, .inl (g.2.1 0, 8, .inl fS21))] ++ pl) := hD
    obtain ⟨-, -, -, hm24, hm25⟩ := hq22
    obtain ⟨he21, he22, he23, he24, he25⟩ := hm25
    have he21 : th21 = nI 1 := he21
    have he22 : tp21 = tp := he22
    have he23 : rs21 = rs := he23
    have he24 : ks21 = ks := he24
    obtain rfl := he25
    refine W.widen (k := 0) (n := 0) (by omega) (by omega) ?_
    exact mp_iret hx hb hr hlk hP hD hS ((th21, tp21, rs21, ks21, fS21), pl) ⟨⟨(by show tp21 ≤ 16384; omega), (by show rs21 ≤ 8192; omega), (by show ks21 ≤ 8; omega), hm24⟩, hO⟩ [0, 1] rfl rfl rfl (by omega) (by omega) dM_part_27
  · obtain ⟨rfl, z21, hz21, rfl⟩ := hq21
    refine lv_if_ne (tgt := 22) hx hb dM_part_10 (by decide) (fun h22 => absurd h22 (by decide)) (fun h22 => ?_)
    refine lv_aload_n hx hb dM_part_13 rfl (lv_at hl 0 rfl) ?_
    refine lv_iload_n hx hb dM_part_14 rfl (lv_at hl 1 rfl) ?_
    refine lv_iload_n hx hb dM_part_15 rfl (lv_at hl 2 rfl) ?_
    refine mp_i (cx := [(h0, .inr (8, [.int (nI 0), .int (nI tp), .int (nI rs), .int (nI ks), .ref mt, .ref mr_, .ref mk, .ref mo, .ref mh, .ref mse, .ref mhs, .ref msp, .ref msc, .ref mha])), (mse, .inl (g.2.1 0, 8, .inl fS))]) (wr := []) hP hD hS hA [0, 1] [] rfl rfl rfl (by decide) (va_runV (As := [.int (nI z21), .int sc]) (rest := []) F (t_M_size l g _ T  pl hO hU  z21 sc h0 mt mr_ mk mo mh mse mhs msp msc mha tp rs ks (nI 0) fS k_mt k_mr_ k_mk k_mo k_mh k_mhs k_msp k_msc k_mha (by omega) hS5 (by omega)) (cwV 2 hts (wg_app (wg_c kw_1785 (wg_c kw_1787 (wg_c ks_66 (wg_c kw_9 wg_n)))) kw_1788) rfl rfl rfl (by decide +kernel) ⟨by decide, by decide⟩) (pp_V (en_ok g) (q0 := 0) hK hP hD hS hA hE [0, 1] rfl rfl rfl rfl) rfl rfl hl.1 rfl (lv_room (Nat.le_of_ble_eq_true rfl)) dM_part_16 ⟨by omega, by omega⟩) (fun r23 pl H locs hu23 hP hD hS => ?_)
    obtain ⟨hq23, hO⟩ := hu23
    have hP : va_P g.1 vcl ([(h0, .inr (8, [.int (nI 0), .int (nI tp), .int (nI rs), .int (nI ks), .ref mt, .ref mr_, .ref mk, .ref mo, .ref mh, .ref mse, .ref mhs, .ref msp, .ref msc, .ref mha])), (mse, .inl (g.2.1 0, 8, .inl fS))] ++ pl) _ := hP
    have hD : va_D _ ([(h0, .inr (8, [.int (nI 0), .int (nI tp), .int (nI rs), .int (nI ks), .ref mt, .ref mr_, .ref mk, .ref mo, .ref mh, .ref mse, .ref mhs, .ref msp, .ref msc, .ref mha])), (mse, .inl (g.2.1 0, 8, .inl fS))] ++ pl) := hD
    obtain ⟨z22, hz22, rfl, hz221⟩ := hq23
    refine W.widen (k := 0) (n := 0) (by omega) (by omega) ?_
    refine lv_if_ne (tgt := 28) hx hb dM_part_19 (by decide) (fun h23 => ?_) (fun h23 => ?_)
    · refine lv_iload_n hx hb dM_part_28 rfl (lv_at hl 3 rfl) ?_
      refine lv_if_lt (tgt := 42) hx hb dM_part_29 (by decide) (fun h24 => ?_) (fun h24 => ?_)
      · refine lv_aload_n hx hb dM_part_42 rfl (lv_at hl 0 rfl) ?_
        refine lv_iconst (v := nI 2) hx hb dM_part_43 (by decide) ?_
        refine mp_i (cx := [(h0, .inr (8, [.int (nI 0), .int (nI tp), .int (nI rs), .int (nI ks), .ref mt, .ref mr_, .ref mk, .ref mo, .ref mh, .ref mse, .ref mhs, .ref msp, .ref msc, .ref mha])), (mse, .inl (g.2.1 0, 8, .inl fS))]) (wr := []) hP hD hS hA [0, 1] [] rfl rfl rfl (by decide) (va_runV (As := [.int (nI 2)]) (rest := []) F (t_M_fail l g _ T  pl hO hU  (nI 2) h0 mt mr_ mk mo mh mse mhs msp msc mha tp rs ks (nI 0) fS k_mt k_mr_ k_mk k_mo k_mh k_mhs k_msp k_msc k_mha (by omega) hS5) (cwV 1 hts (wg_app (wg_c kw_1577 (wg_c kw_1579 (wg_c ks_50 (wg_c kw_9 wg_n)))) kw_1580) rfl rfl rfl (by decide +kernel) ⟨by decide, by decide⟩) (pp_V (en_ok g) (q0 := 0) hK hP hD hS hA hE [0, 1] rfl rfl rfl rfl) rfl rfl hl.1 rfl (lv_room (Nat.le_of_ble_eq_true rfl)) dM_part_44 ⟨by omega, by omega⟩) (fun r24 u23 H locs hu24 hP hD hS => ?_)
        obtain ⟨u24, pl⟩ := u23
        obtain ⟨hq24, hO⟩ := hu24
        obtain ⟨th22, tp22, rs22, ks22, fS22⟩ := u24
        have hP : va_P g.1 vcl ([(h0, .inr (8, [.int th22, .int (nI tp22), .int (nI rs22), .int (nI ks22), .ref mt, .ref mr_, .ref mk, .ref mo, .ref mh, .ref mse, .ref mhs, .ref msp, .ref msc, .ref mha])), (mse, .inl (g.2.1 0, 8, .inl fS22))] ++ pl) _ := hP
        have hD : va_D _ ([(h0, .inr (8, [.int th22, .int (nI tp22), .int (nI rs22), .int (nI ks22), .ref mt, .ref mr_, .ref mk, .ref mo, .ref mh, .ref mse, .ref mhs, .ref msp, .ref msc, .ref mha])), (mse, .inl (g.2.1 0, 8, .inl fS22))] ++ pl) := hD
        obtain ⟨-, -, -, hm29, hm30⟩ := hq24
        obtain ⟨he26, he27, he28, he29, he30⟩ := hm30
        have he26 : th22 = nI 2 := he26
        have he27 : tp22 = tp := he27
        have he28 : rs22 = rs := he28
        have he29 : ks22 = ks := he29
        obtain rfl := he30
        refine W.widen (k := 0) (n := 0) (by omega) (by omega) ?_
        exact mp_iret hx hb hr hlk hP hD hS ((th22, tp22, rs22, ks22, fS22), pl) ⟨⟨(by show tp22 ≤ 16384; omega), (by show rs22 ≤ 8192; omega), (by show ks22 ≤ 8; omega), hm29⟩, hO⟩ [0, 1] rfl rfl rfl (by omega) (by omega) dM_part_47
      · refine lv_iload_n hx hb dM_part_32 rfl (lv_at hl 3 rfl) ?_
        refine lv_aload_n hx hb dM_part_33 rfl (lv_at hl 0 rfl) ?_
        refine lv_iload_n hx hb dM_part_34 rfl (lv_at hl 1 rfl) ?_
        refine lv_iload_n hx hb dM_part_35 rfl (lv_at hl 2 rfl) ?_
        refine mp_i (cx := [(h0, .inr (8, [.int (nI 0), .int (nI tp), .int (nI rs), .int (nI ks), .ref mt, .ref mr_, .ref mk, .ref mo, .ref mh, .ref mse, .ref mhs, .ref msp, .ref msc, .ref mha])), (mse, .inl (g.2.1 0, 8, .inl fS))]) (wr := []) hP hD hS hA [0, 1] [] rfl rfl rfl (by decide) (va_runV (As := [.int (nI z21), .int sc]) (rest := [.int v3]) F (t_M_size l g _ T  pl hO hU  z21 sc h0 mt mr_ mk mo mh mse mhs msp msc mha tp rs ks (nI 0) fS k_mt k_mr_ k_mk k_mo k_mh k_mhs k_msp k_msc k_mha (by omega) hS5 (by omega)) (cwV 2 hts (wg_app (wg_c kw_1785 (wg_c kw_1787 (wg_c ks_66 (wg_c kw_9 wg_n)))) kw_1788) rfl rfl rfl (by decide +kernel) ⟨by decide, by decide⟩) (pp_V (en_ok g) (q0 := 0) hK hP hD hS hA hE [0, 1] rfl rfl rfl rfl) rfl rfl hl.1 rfl (lv_room (Nat.le_of_ble_eq_true rfl)) dM_part_36 ⟨by omega, by omega⟩) (fun r25 pl H locs hu25 hP hD hS => ?_)
        obtain ⟨hq25, hO⟩ := hu25
        have hP : va_P g.1 vcl ([(h0, .inr (8, [.int (nI 0), .int (nI tp), .int (nI rs), .int (nI ks), .ref mt, .ref mr_, .ref mk, .ref mo, .ref mh, .ref mse, .ref mhs, .ref msp, .ref msc, .ref mha])), (mse, .inl (g.2.1 0, 8, .inl fS))] ++ pl) _ := hP
        have hD : va_D _ ([(h0, .inr (8, [.int (nI 0), .int (nI tp), .int (nI rs), .int (nI ks), .ref mt, .ref mr_, .ref mk, .ref mo, .ref mh, .ref mse, .ref mhs, .ref msp, .ref msc, .ref mha])), (mse, .inl (g.2.1 0, 8, .inl fS))] ++ pl) := hD
        obtain ⟨z23, hz23, rfl, hz222⟩ := hq25
        refine W.widen (k := 0) (n := 0) (by omega) (by omega) ?_
        refine lv_icmp_lt (tgt := 48) hx hb dM_part_39 (by decide) (fun h25 => ?_) (fun h25 => ?_)
        · obtain ⟨z24, hz24, rfl⟩ := i32_ltc h24 (by omega) h25
          refine lv_iload_n hx hb dM_part_48 rfl (lv_at hl 2 rfl) ?_
          refine lv_if_eq (tgt := 63) hx hb dM_part_49 (by decide) (fun h26 => ?_) (fun h26 => ?_)
          · have hz9 := hz222 h26
            refine lv_aload_n hx hb dM_part_63 rfl (lv_at hl 0 rfl) ?_
            refine va_get (D := g.1) (ci := 8) (C := "LatticeKeysModel") (T := T_M) (N := 14) hx hb hts (wg_ft i_M) hown hK hP 0 rfl rfl 7 (by decide) (hts _ (wg_t kw_1533)) (fun _ h9 => h9) rfl dM_part_64 ?_
            refine lv_iload_n hx hb dM_part_67 rfl (lv_at hl 1 rfl) ?_
            refine ty_aald4 hx hb hK hO k_mo (nxg clo_nil k_mo rfl) hP (by omega) dM_part_68 (fun r26 kr21 => ?_)
            refine lv_iload_n hx hb dM_part_69 rfl (lv_at hl 3 rfl) ?_
            refine ty_bald hx hb hK hO kr21 (nxg clo_nil kr21 rfl) hP (vp_in_nI (by omega) (by decide)) dM_part_70 (fun z25 => ?_)
            refine lv_sipush (v := nI 255) hx hb dM_part_71 (by decide) ?_
            refine mi_iand hx hb 8 dM_part_74 (by decide) (fun z26 hz25 => ?_)
            have hz25 : z26 < 256 := hz25
            exact mp_iret hx hb hr hlk hP hD hS ((nI 0, tp, rs, ks, fS), pl) ⟨⟨(by show tp ≤ 16384; omega), (by show rs ≤ 8192; omega), (by show ks ≤ 8; omega), hS5⟩, hO⟩ [0, 1] rfl rfl rfl (by omega) (by omega) dM_part_75
          · refine lv_aload_n hx hb dM_part_52 rfl (lv_at hl 0 rfl) ?_
            refine va_get (D := g.1) (ci := 8) (C := "LatticeKeysModel") (T := T_M) (N := 14) hx hb hts (wg_ft i_M) hown hK hP 0 rfl rfl 8 (by decide) (hts _ (wg_t kw_1534)) (fun _ h9 => h9) rfl dM_part_53 ?_
            refine lv_iload_n hx hb dM_part_56 rfl (lv_at hl 1 rfl) ?_
            refine ty_aald4 hx hb hK hO k_mh (nxg clo_nil k_mh rfl) hP (by omega) dM_part_57 (fun r27 kr22 => ?_)
            refine lv_iload_n hx hb dM_part_58 rfl (lv_at hl 3 rfl) ?_
            refine ty_bald hx hb hK hO kr22 (nxg clo_nil kr22 rfl) hP (vp_in_nI (by omega) (by decide)) dM_part_59 (fun z27 => ?_)
            refine lv_goto (tgt := 71) hx hb dM_part_60 (by decide) ?_
            refine lv_sipush (v := nI 255) hx hb dM_part_71 (by decide) ?_
            refine mi_iand hx hb 8 dM_part_74 (by decide) (fun z28 hz26 => ?_)
            have hz26 : z28 < 256 := hz26
            exact mp_iret hx hb hr hlk hP hD hS ((nI 0, tp, rs, ks, fS), pl) ⟨⟨(by show tp ≤ 16384; omega), (by show rs ≤ 8192; omega), (by show ks ≤ 8; omega), hS5⟩, hO⟩ [0, 1] rfl rfl rfl (by omega) (by omega) dM_part_75
        · refine lv_aload_n hx hb dM_part_42 rfl (lv_at hl 0 rfl) ?_
          refine lv_iconst (v := nI 2) hx hb dM_part_43 (by decide) ?_
          refine mp_i (cx := [(h0, .inr (8, [.int (nI 0), .int (nI tp), .int (nI rs), .int (nI ks), .ref mt, .ref mr_, .ref mk, .ref mo, .ref mh, .ref mse, .ref mhs, .ref msp, .ref msc, .ref mha])), (mse, .inl (g.2.1 0, 8, .inl fS))]) (wr := []) hP hD hS hA [0, 1] [] rfl rfl rfl (by decide) (va_runV (As := [.int (nI 2)]) (rest := []) F (t_M_fail l g _ T  pl hO hU  (nI 2) h0 mt mr_ mk mo mh mse mhs msp msc mha tp rs ks (nI 0) fS k_mt k_mr_ k_mk k_mo k_mh k_mhs k_msp k_msc k_mha (by omega) hS5) (cwV 1 hts (wg_app (wg_c kw_1577 (wg_c kw_1579 (wg_c ks_50 (wg_c kw_9 wg_n)))) kw_1580) rfl rfl rfl (by decide +kernel) ⟨by decide, by decide⟩) (pp_V (en_ok g) (q0 := 0) hK hP hD hS hA hE [0, 1] rfl rfl rfl rfl) rfl rfl hl.1 rfl (lv_room (Nat.le_of_ble_eq_true rfl)) dM_part_44 ⟨by omega, by omega⟩) (fun r28 u25 H locs hu26 hP hD hS => ?_)
          obtain ⟨u26, pl⟩ := u25
          obtain ⟨hq26, hO⟩ := hu26
          obtain ⟨th23, tp23, rs23, ks23, fS23⟩ := u26
          have hP : va_P g.1 vcl ([(h0, .inr (8, [.int th23, .int (nI tp23), .int (nI rs23), .int (nI ks23), .ref mt, .ref mr_, .ref mk, .ref mo, .ref mh, .ref mse, .ref mhs, .ref msp, .ref msc, .ref mha])), (mse, .inl (g.2.1 0, 8, .inl fS23))] ++ pl) _ := hP
          have hD : va_D _ ([(h0, .inr (8, [.int th23, .int (nI tp23), .int (nI rs23), .int (nI ks23), .ref mt, .ref mr_, .ref mk, .ref mo, .ref mh, .ref mse, .ref mhs, .ref msp, .ref msc, .ref mha])), (mse, .inl (g.2.1 0, 8, .inl fS23))] ++ pl) := hD
          obtain ⟨-, -, -, hm34, hm35⟩ := hq26
          obtain ⟨he31, he32, he33, he34, he35⟩ := hm35
          have he31 : th23 = nI 2 := he31
          have he32 : tp23 = tp := he32
          have he33 : rs23 = rs := he33
          have he34 : ks23 = ks := he34
          obtain rfl := he35
          refine W.widen (k := 0) (n := 0) (by omega) (by omega) ?_
          exact mp_iret hx hb hr hlk hP hD hS ((th23, tp23, rs23, ks23, fS23), pl) ⟨⟨(by show tp23 ≤ 16384; omega), (by show rs23 ≤ 8192; omega), (by show ks23 ≤ 8; omega), hm34⟩, hO⟩ [0, 1] rfl rfl rfl (by omega) (by omega) dM_part_47
    · refine lv_aload_n hx hb dM_part_22 rfl (lv_at hl 0 rfl) ?_
      refine lv_iconst (v := nI 1) hx hb dM_part_23 (by decide) ?_
      refine mp_i (cx := [(h0, .inr (8, [.int (nI 0), .int (nI tp), .int (nI rs), .int (nI ks), .ref mt, .ref mr_, .ref mk, .ref mo, .ref mh, .ref mse, .ref mhs, .ref msp, .ref msc, .ref mha])), (mse, .inl (g.2.1 0, 8, .inl fS))]) (wr := []) hP hD hS hA [0, 1] [] rfl rfl rfl (by decide) (va_runV (As := [.int (nI 1)]) (rest := []) F (t_M_fail l g _ T  pl hO hU  (nI 1) h0 mt mr_ mk mo mh mse mhs msp msc mha tp rs ks (nI 0) fS k_mt k_mr_ k_mk k_mo k_mh k_mhs k_msp k_msc k_mha (by omega) hS5) (cwV 1 hts (wg_app (wg_c kw_1577 (wg_c kw_1579 (wg_c ks_50 (wg_c kw_9 wg_n)))) kw_1580) rfl rfl rfl (by decide +kernel) ⟨by decide, by decide⟩) (pp_V (en_ok g) (q0 := 0) hK hP hD hS hA hE [0, 1] rfl rfl rfl rfl) rfl rfl hl.1 rfl (lv_room (Nat.le_of_ble_eq_true rfl)) dM_part_24 ⟨by omega, by omega⟩) (fun r29 u27 H locs hu27 hP hD hS => ?_)
      obtain ⟨u28, pl⟩ := u27
      obtain ⟨hq27, hO⟩ := hu27
      obtain ⟨th24, tp24, rs24, ks24, fS24⟩ := u28
      have hP : va_P g.1 vcl ([(h0, .inr (8, [.int th24, .int (nI tp24), .int (nI rs24), .int (nI ks24), .ref mt, .ref mr_, .ref mk, .ref mo, .ref mh, .ref mse, .ref mhs, .ref msp, .ref msc, .ref mha])), (mse, .inl (g.2.1 0, 8, .inl fS24))] ++ pl) _ := hP
      have hD : va_D _ ([(h0, .inr (8, [.int th24, .int (nI tp24), .int (nI rs24), .int (nI ks24), .ref mt, .ref mr_, .ref mk, .ref mo, .ref mh, .ref mse, .ref mhs, .ref msp, .ref msc, .ref mha])), (mse, .inl (g.2.1 0, 8, .inl fS24))] ++ pl) := hD
      obtain ⟨-, -, -, hm39, hm40⟩ := hq27
      obtain ⟨he36, he37, he38, he39, he40⟩ := hm40
      have he36 : th24 = nI 1 := he36
      have he37 : tp24 = tp := he37
      have he38 : rs24 = rs := he38
      have he39 : ks24 = ks := he39
      obtain rfl := he40
      refine W.widen (k := 0) (n := 0) (by omega) (by omega) ?_
      exact mp_iret hx hb hr hlk hP hD hS ((th24, tp24, rs24, ks24, fS24), pl) ⟨⟨(by show tp24 ≤ 16384; omega), (by show rs24 ≤ 8192; omega), (by show ks24 ≤ 8; omega), hm39⟩, hO⟩ [0, 1] rfl rfl rfl (by omega) (by omega) dM_part_27
set_option maxHeartbeats 4000000 in
set_option maxRecDepth 100000 in
theorem t_M_show (l : Launch) (g : Gd) (sz : Nat) (T : Ty) (pl : va_W) (hO : okx g T [] pl) (hU : uni T) (v : Int32) (sc : Int32) (h0 mt mr_ mk mo mh mse mhs msp msc mha tp rs ks : Nat) (x0 : Int32) (fS : Nat → Int32) (k_mt : T mt = some (1, 16384)) (k_mr_ : T mr_ = some (1, 8192)) (k_mk : T mk = some (1, 8192)) (k_mo : T mo = some (4, 2592)) (k_mh : T mh = some (4, 4896)) (k_mhs : T mhs = some (5, 4896)) (k_msp : T msp = some (20, 0)) (k_msc : T msc = some (23, 0)) (k_mha : T mha = some (49, 0)) (hb : tp ≤ 16384 ∧ rs ≤ 8192 ∧ ks ≤ 8) (hS5 : s5 fS)  : Met l y_M_show w_M_show ({ frames := 3, cells := 0, slots := 0, locals := 62 } : Room) (va_Pc [.ref h0, .int v, .int sc] (pr (en g) g.1 vcl sz ([(h0, .inr (8, [.int x0, .int (nI tp), .int (nI rs), .int (nI ks), .ref mt, .ref mr_, .ref mk, .ref mo, .ref mh, .ref mse, .ref mhs, .ref msp, .ref msc, .ref mha])), (mse, .inl (g.2.1 0, 8, .inl fS))] ++ pl))) (va_Qi (fun (r : Int32) (u : (Int32 × Nat × Nat × Nat × (Nat → Int32)) × va_W) => (u.1.2.1 ≤ 16384 ∧ u.1.2.2.1 ≤ 8192 ∧ u.1.2.2.2.1 ≤ 8 ∧ s5 u.1.2.2.2.2) ∧ okx g T [] u.2) (po g.1 vcl (va_A ([(h0, .inr (8, [.int x0, .int (nI tp), .int (nI rs), .int (nI ks), .ref mt, .ref mr_, .ref mk, .ref mo, .ref mh, .ref mse, .ref mhs, .ref msp, .ref msc, .ref mha])), (mse, .inl (g.2.1 0, 8, .inl fS))] ++ pl) sz) (fun (u : (Int32 × Nat × Nat × Nat × (Nat → Int32)) × va_W) => [(h0, .inr (8, [.int u.1.1, .int (nI (u.1.2.1)), .int (nI (u.1.2.2.1)), .int (nI (u.1.2.2.2.1)), .ref mt, .ref mr_, .ref mk, .ref mo, .ref mh, .ref mse, .ref mhs, .ref msp, .ref msc, .ref mha])), (mse, .inl (g.2.1 0, 8, .inl ((u.1.2.2.2.2))))] ++ u.2)) (va_A ([(h0, .inr (8, [.int x0, .int (nI tp), .int (nI rs), .int (nI ks), .ref mt, .ref mr_, .ref mk, .ref mo, .ref mh, .ref mse, .ref mhs, .ref msp, .ref msc, .ref mha])), (mse, .inl (g.2.1 0, 8, .inl fS))] ++ pl) sz)) 0 0 (va_A ([(h0, .inr (8, [.int x0, .int (nI tp), .int (nI rs), .int (nI ks), .ref mt, .ref mr_, .ref mk, .ref mo, .ref mh, .ref mse, .ref mhs, .ref msp, .ref msc, .ref mha])), (mse, .inl (g.2.1 0, 8, .inl fS))] ++ pl) sz) := by
  refine mc_entry (cc := c_M_show) (maxL := 4) (ret := (some .int)) (by decide) rfl (Nat.le_of_ble_eq_true rfl) ?_
  intro p e s m args below meth c ls F hr hlk hnm hsz hP hD hE hA hl
  obtain ⟨hx, hb, hml, hown, hts⟩ := id F
  have hK := hE.1
  generalize va_A ([(h0, .inr (8, [.int x0, .int (nI tp), .int (nI rs), .int (nI ks), .ref mt, .ref mr_, .ref mk, .ref mo, .ref mh, .ref mse, .ref mhs, .ref msp, .ref msc, .ref mha])), (mse, .inl (g.2.1 0, 8, .inl fS))] ++ pl) sz = A at hD hE hA ⊢
  have hS : va_S A s.heap s.heap [] := va_S.rf
  have hl : lv_has ls 4 [(0, .ref h0), (1, .int v), (2, .int sc)] := hl
  refine lv_aload_n hx hb dM_show_0 rfl (lv_at hl 0 rfl) ?_
  refine lv_iconst (v := nI 0) hx hb dM_show_1 (by decide) ?_
  refine va_put (D := g.1) (ci := 8) (v := .int (nI 0)) (ty := .int) (C := "LatticeKeysModel") (T := T_M) (N := 14) hx hb hts (wg_ft i_M) ty_M k_M n_M hown hK hP hD hS 0 rfl rfl 0 (by decide) (hts _ (wg_t kw_1526)) (fun _ h9 => h9) rfl (by decide +kernel) rfl rfl (Nat.le_of_ble_eq_true rfl) dM_show_2 (fun H locs hP hD hS => ?_)
  have hP : va_P g.1 vcl ([(h0, .inr (8, [.int (nI 0), .int (nI tp), .int (nI rs), .int (nI ks), .ref mt, .ref mr_, .ref mk, .ref mo, .ref mh, .ref mse, .ref mhs, .ref msp, .ref msc, .ref mha])), (mse, .inl (g.2.1 0, 8, .inl fS))] ++ pl) _ := hP
  have hD : va_D _ ([(h0, .inr (8, [.int (nI 0), .int (nI tp), .int (nI rs), .int (nI ks), .ref mt, .ref mr_, .ref mk, .ref mo, .ref mh, .ref mse, .ref mhs, .ref msp, .ref msc, .ref mha])), (mse, .inl (g.2.1 0, 8, .inl fS))] ++ pl) := hD
  refine lv_aload_n hx hb dM_show_5 rfl (lv_at hl 0 rfl) ?_
  refine lv_iload_n hx hb dM_show_6 rfl (lv_at hl 1 rfl) ?_
  refine mp_i (cx := [(h0, .inr (8, [.int (nI 0), .int (nI tp), .int (nI rs), .int (nI ks), .ref mt, .ref mr_, .ref mk, .ref mo, .ref mh, .ref mse, .ref mhs, .ref msp, .ref msc, .ref mha])), (mse, .inl (g.2.1 0, 8, .inl fS))]) (wr := []) hP hD hS hA [0, 1] [] rfl rfl rfl (by decide) (va_runV (As := [.int v]) (rest := []) F (t_M_none l g _ T  pl hO hU  v h0 mt mr_ mk mo mh mse mhs msp msc mha tp rs ks (nI 0) fS k_mt k_mr_ k_mk k_mo k_mh k_mhs k_msp k_msc k_mha (by omega) hS5) (cwV 1 hts (wg_app (wg_c kw_1781 (wg_c kw_1783 (wg_c ks_65 (wg_c kw_9 wg_n)))) kw_1784) rfl rfl rfl (by decide +kernel) ⟨by decide, by decide⟩) (pp_V (en_ok g) (q0 := 0) hK hP hD hS hA hE [0, 1] rfl rfl rfl rfl) rfl rfl hl.1 rfl (lv_room (Nat.le_of_ble_eq_true rfl)) dM_show_7 ⟨by omega, by omega⟩) (fun r21 pl H locs hu21 hP hD hS => ?_)
  obtain ⟨hq21, hO⟩ := hu21
  have hP : va_P g.1 vcl ([(h0, .inr (8, [.int (nI 0), .int (nI tp), .int (nI rs), .int (nI ks), .ref mt, .ref mr_, .ref mk, .ref mo, .ref mh, .ref mse, .ref mhs, .ref msp, .ref msc, .ref mha])), (mse, .inl (g.2.1 0, 8, .inl fS))] ++ pl) _ := hP
  have hD : va_D _ ([(h0, .inr (8, [.int (nI 0), .int (nI tp), .int (nI rs), .int (nI ks), .ref mt, .ref mr_, .ref mk, .ref mo, .ref mh, .ref mse, .ref mhs, .ref msp, .ref msc, .ref mha])), (mse, .inl (g.2.1 0, 8, .inl fS))] ++ pl) := hD
  refine W.widen (k := 0) (n := 0) (by omega) (by omega) ?_
  rcases hq21 with hq21 | hq21
  · obtain rfl := hq21
    refine lv_if_ne (tgt := 22) hx hb dM_show_10 (by decide) (fun h21 => ?_) (fun h21 => absurd h21 (by decide))
    refine lv_aload_n hx hb dM_show_22 rfl (lv_at hl 0 rfl) ?_
    refine lv_iconst (v := nI 1) hx hb dM_show_23 (by decide) ?_
    refine mp_i (cx := [(h0, .inr (8, [.int (nI 0), .int (nI tp), .int (nI rs), .int (nI ks), .ref mt, .ref mr_, .ref mk, .ref mo, .ref mh, .ref mse, .ref mhs, .ref msp, .ref msc, .ref mha])), (mse, .inl (g.2.1 0, 8, .inl fS))]) (wr := []) hP hD hS hA [0, 1] [] rfl rfl rfl (by decide) (va_runV (As := [.int (nI 1)]) (rest := []) F (t_M_fail l g _ T  pl hO hU  (nI 1) h0 mt mr_ mk mo mh mse mhs msp msc mha tp rs ks (nI 0) fS k_mt k_mr_ k_mk k_mo k_mh k_mhs k_msp k_msc k_mha (by omega) hS5) (cwV 1 hts (wg_app (wg_c kw_1577 (wg_c kw_1579 (wg_c ks_50 (wg_c kw_9 wg_n)))) kw_1580) rfl rfl rfl (by decide +kernel) ⟨by decide, by decide⟩) (pp_V (en_ok g) (q0 := 0) hK hP hD hS hA hE [0, 1] rfl rfl rfl rfl) rfl rfl hl.1 rfl (lv_room (Nat.le_of_ble_eq_true rfl)) dM_show_24 ⟨by omega, by omega⟩) (fun r22 u21 H locs hu22 hP hD hS => ?_)
    obtain ⟨u22, pl⟩ := u21
    obtain ⟨hq22, hO⟩ := hu22
    obtain ⟨th21, tp21, rs21, ks21, fS21⟩ := u22
    have hP : va_P g.1 vcl ([(h0, .inr (8, [.int th21, .int (nI tp21), .int (nI rs21), .int (nI ks21), .ref mt, .ref mr_, .ref mk, .ref mo, .ref mh, .ref mse, .ref mhs, .ref msp, .ref msc, .ref mha])), (mse, .inl (g.2.1 0, 8, .inl fS21))] ++ pl) _ := hP
    have hD : va_D _ ([(h0, .inr (8, [.int th21, .int (nI tp21), .int (nI rs21), .int (nI ks21), .ref mt, .ref mr_, .ref mk, .ref mo, .ref mh, .ref mse, .ref mhs, .ref msp, .ref msc, .ref mha])), (mse, .inl (g.2.1 0, 8, .inl fS21))] ++ pl) := hD
    obtain ⟨-, -, -, hm24, hm25⟩ := hq22
    obtain ⟨he21, he22, he23, he24, he25⟩ := hm25
    have he21 : th21 = nI 1 := he21
    have he22 : tp21 = tp := he22
    have he23 : rs21 = rs := he23
    have he24 : ks21 = ks := he24
    obtain rfl := he25
    refine W.widen (k := 0) (n := 0) (by omega) (by omega) ?_
    exact mp_iret hx hb hr hlk hP hD hS ((th21, tp21, rs21, ks21, fS21), pl) ⟨⟨(by show tp21 ≤ 16384; omega), (by show rs21 ≤ 8192; omega), (by show ks21 ≤ 8; omega), hm24⟩, hO⟩ [0, 1] rfl rfl rfl (by omega) (by omega) dM_show_27
  · obtain ⟨rfl, z21, hz21, rfl⟩ := hq21
    refine lv_if_ne (tgt := 22) hx hb dM_show_10 (by decide) (fun h22 => absurd h22 (by decide)) (fun h22 => ?_)
    refine lv_aload_n hx hb dM_show_13 rfl (lv_at hl 0 rfl) ?_
    refine lv_iload_n hx hb dM_show_14 rfl (lv_at hl 1 rfl) ?_
    refine lv_iload_n hx hb dM_show_15 rfl (lv_at hl 2 rfl) ?_
    refine mp_i (cx := [(h0, .inr (8, [.int (nI 0), .int (nI tp), .int (nI rs), .int (nI ks), .ref mt, .ref mr_, .ref mk, .ref mo, .ref mh, .ref mse, .ref mhs, .ref msp, .ref msc, .ref mha])), (mse, .inl (g.2.1 0, 8, .inl fS))]) (wr := []) hP hD hS hA [0, 1] [] rfl rfl rfl (by decide) (va_runV (As := [.int (nI z21), .int sc]) (rest := []) F (t_M_size l g _ T  pl hO hU  z21 sc h0 mt mr_ mk mo mh mse mhs msp msc mha tp rs ks (nI 0) fS k_mt k_mr_ k_mk k_mo k_mh k_mhs k_msp k_msc k_mha (by omega) hS5 (by omega)) (cwV 2 hts (wg_app (wg_c kw_1785 (wg_c kw_1787 (wg_c ks_66 (wg_c kw_9 wg_n)))) kw_1788) rfl rfl rfl (by decide +kernel) ⟨by decide, by decide⟩) (pp_V (en_ok g) (q0 := 0) hK hP hD hS hA hE [0, 1] rfl rfl rfl rfl) rfl rfl hl.1 rfl (lv_room (Nat.le_of_ble_eq_true rfl)) dM_show_16 ⟨by omega, by omega⟩) (fun r23 pl H locs hu23 hP hD hS => ?_)
    obtain ⟨hq23, hO⟩ := hu23
    have hP : va_P g.1 vcl ([(h0, .inr (8, [.int (nI 0), .int (nI tp), .int (nI rs), .int (nI ks), .ref mt, .ref mr_, .ref mk, .ref mo, .ref mh, .ref mse, .ref mhs, .ref msp, .ref msc, .ref mha])), (mse, .inl (g.2.1 0, 8, .inl fS))] ++ pl) _ := hP
    have hD : va_D _ ([(h0, .inr (8, [.int (nI 0), .int (nI tp), .int (nI rs), .int (nI ks), .ref mt, .ref mr_, .ref mk, .ref mo, .ref mh, .ref mse, .ref mhs, .ref msp, .ref msc, .ref mha])), (mse, .inl (g.2.1 0, 8, .inl fS))] ++ pl) := hD
    obtain ⟨z22, hz22, rfl, hz221⟩ := hq23
    refine W.widen (k := 0) (n := 0) (by omega) (by omega) ?_
    refine lv_if_ne (tgt := 28) hx hb dM_show_19 (by decide) (fun h23 => ?_) (fun h23 => ?_)
    · refine lv_aload_n hx hb dM_show_28 rfl (lv_at hl 0 rfl) ?_
      refine lv_aload_n hx hb dM_show_29 rfl (lv_at hl 0 rfl) ?_
      refine lv_iload_n hx hb dM_show_30 rfl (lv_at hl 1 rfl) ?_
      refine lv_iload_n hx hb dM_show_31 rfl (lv_at hl 2 rfl) ?_
      refine mp_i (cx := [(h0, .inr (8, [.int (nI 0), .int (nI tp), .int (nI rs), .int (nI ks), .ref mt, .ref mr_, .ref mk, .ref mo, .ref mh, .ref mse, .ref mhs, .ref msp, .ref msc, .ref mha])), (mse, .inl (g.2.1 0, 8, .inl fS))]) (wr := []) hP hD hS hA [0, 1] [] rfl rfl rfl (by decide) (va_runV (As := [.int (nI z21), .int sc]) (rest := [.ref h0]) F (t_M_size l g _ T  pl hO hU  z21 sc h0 mt mr_ mk mo mh mse mhs msp msc mha tp rs ks (nI 0) fS k_mt k_mr_ k_mk k_mo k_mh k_mhs k_msp k_msc k_mha (by omega) hS5 (by omega)) (cwV 2 hts (wg_app (wg_c kw_1785 (wg_c kw_1787 (wg_c ks_66 (wg_c kw_9 wg_n)))) kw_1788) rfl rfl rfl (by decide +kernel) ⟨by decide, by decide⟩) (pp_V (en_ok g) (q0 := 0) hK hP hD hS hA hE [0, 1] rfl rfl rfl rfl) rfl rfl hl.1 rfl (lv_room (Nat.le_of_ble_eq_true rfl)) dM_show_32 ⟨by omega, by omega⟩) (fun r24 pl H locs hu24 hP hD hS => ?_)
      obtain ⟨hq24, hO⟩ := hu24
      have hP : va_P g.1 vcl ([(h0, .inr (8, [.int (nI 0), .int (nI tp), .int (nI rs), .int (nI ks), .ref mt, .ref mr_, .ref mk, .ref mo, .ref mh, .ref mse, .ref mhs, .ref msp, .ref msc, .ref mha])), (mse, .inl (g.2.1 0, 8, .inl fS))] ++ pl) _ := hP
      have hD : va_D _ ([(h0, .inr (8, [.int (nI 0), .int (nI tp), .int (nI rs), .int (nI ks), .ref mt, .ref mr_, .ref mk, .ref mo, .ref mh, .ref mse, .ref mhs, .ref msp, .ref msc, .ref mha])), (mse, .inl (g.2.1 0, 8, .inl fS))] ++ pl) := hD
      obtain ⟨z23, hz23, rfl, hz222⟩ := hq24
      refine W.widen (k := 0) (n := 0) (by omega) (by omega) ?_
      refine va_put (D := g.1) (ci := 8) (v := .int (nI z23)) (ty := .int) (C := "LatticeKeysModel") (T := T_M) (N := 14) hx hb hts (wg_ft i_M) ty_M k_M n_M hown hK hP hD hS 0 rfl rfl 2 (by decide) (hts _ (wg_t kw_1528)) (fun _ h9 => h9) rfl (by decide +kernel) rfl rfl (Nat.le_of_ble_eq_true rfl) dM_show_35 (fun H locs hP hD hS => ?_)
      have hP : va_P g.1 vcl ([(h0, .inr (8, [.int (nI 0), .int (nI tp), .int (nI z23), .int (nI ks), .ref mt, .ref mr_, .ref mk, .ref mo, .ref mh, .ref mse, .ref mhs, .ref msp, .ref msc, .ref mha])), (mse, .inl (g.2.1 0, 8, .inl fS))] ++ pl) _ := hP
      have hD : va_D _ ([(h0, .inr (8, [.int (nI 0), .int (nI tp), .int (nI z23), .int (nI ks), .ref mt, .ref mr_, .ref mk, .ref mo, .ref mh, .ref mse, .ref mhs, .ref msp, .ref msc, .ref mha])), (mse, .inl (g.2.1 0, 8, .inl fS))] ++ pl) := hD
      refine lv_iconst (v := nI 0) hx hb dM_show_38 (by decide) ?_
      refine lv_istore_n (lv' := [(3, .int (nI 0)), (0, .ref h0), (1, .int (nI z21)), (2, .int sc)]) hx hb dM_show_39 rfl hl (by decide) rfl (fun ls hl => ?_)
      have lp21 : ∀ (n21 : Nat) (i21 : Nat) (pl : va_W) (ls : Array Slot) (H : Heap) (locs : List Loc), n21 + i21 = z23 → lv_has ls 4 [(3, .int (nI i21)), (0, .ref h0), (1, .int (nI z21)), (2, .int sc)] → okx g T [] pl → va_P g.1 vcl ([(h0, .inr (8, [.int (nI 0), .int (nI tp), .int (nI z23), .int (nI ks), .ref mt, .ref mr_, .ref mk, .ref mo, .ref mh, .ref mse, .ref mhs, .ref msp, .ref msc, .ref mha])), (mse, .inl (g.2.1 0, 8, .inl fS))] ++ pl) H → va_D A ([(h0, .inr (8, [.int (nI 0), .int (nI tp), .int (nI z23), .int (nI ks), .ref mt, .ref mr_, .ref mk, .ref mo, .ref mh, .ref mse, .ref mhs, .ref msp, .ref msc, .ref mha])), (mse, .inl (g.2.1 0, 8, .inl fS))] ++ pl) → va_S A s.heap H locs → W p l e ({ frames := 3, cells := 0, slots := 0, locals := 62 } : Room) s m args below meth c H locs 0 0 (MQ below (va_Qi (fun (r : Int32) (u : (Int32 × Nat × Nat × Nat × (Nat → Int32)) × va_W) => (u.1.2.1 ≤ 16384 ∧ u.1.2.2.1 ≤ 8192 ∧ u.1.2.2.2.1 ≤ 8 ∧ s5 u.1.2.2.2.2) ∧ okx g T [] u.2) (po g.1 vcl A (fun (u : (Int32 × Nat × Nat × Nat × (Nat → Int32)) × va_W) => [(h0, .inr (8, [.int u.1.1, .int (nI (u.1.2.1)), .int (nI (u.1.2.2.1)), .int (nI (u.1.2.2.2.1)), .ref mt, .ref mr_, .ref mk, .ref mo, .ref mh, .ref mse, .ref mhs, .ref msp, .ref msc, .ref mha])), (mse, .inl (g.2.1 0, 8, .inl ((u.1.2.2.2.2))))] ++ u.2)) A) args s 0 0 A) (F0 m 40 ls []) := by
        intro n21
        induction n21 with
        | zero =>
          intro i21 pl ls H locs hm26  hl hO hP hD hS
          refine lv_iload_n hx hb dM_show_40 rfl (lv_at hl 0 rfl) ?_
          refine lv_aload_n hx hb dM_show_41 rfl (lv_at hl 1 rfl) ?_
          refine va_get (D := g.1) (ci := 8) (C := "LatticeKeysModel") (T := T_M) (N := 14) hx hb hts (wg_ft i_M) hown hK hP 0 rfl rfl 2 (by decide) (hts _ (wg_t kw_1528)) (fun _ h9 => h9) rfl dM_show_42 ?_
          refine mi_ge (tgt := 83) hx hb dM_show_45 (by decide) (by omega) (by omega) (fun h24 => ?_) (fun h24 => absurd h24 (by omega))
          refine lv_aload_n hx hb dM_show_83 rfl (lv_at hl 1 rfl) ?_
          refine va_get (D := g.1) (ci := 8) (C := "LatticeKeysModel") (T := T_M) (N := 14) hx hb hts (wg_ft i_M) hown hK hP 0 rfl rfl 2 (by decide) (hts _ (wg_t kw_1528)) (fun _ h9 => h9) rfl dM_show_84 ?_
          exact mp_iret hx hb hr hlk hP hD hS ((nI 0, tp, z23, ks, fS), pl) ⟨⟨(by show tp ≤ 16384; omega), (by show z23 ≤ 8192; omega), (by show ks ≤ 8; omega), hS5⟩, hO⟩ [0, 1] rfl rfl rfl (by omega) (by omega) dM_show_87
        | succ n21 ih21 =>
          intro i21 pl ls H locs hm26  hl hO hP hD hS
          refine lv_iload_n hx hb dM_show_40 rfl (lv_at hl 0 rfl) ?_
          refine lv_aload_n hx hb dM_show_41 rfl (lv_at hl 1 rfl) ?_
          refine va_get (D := g.1) (ci := 8) (C := "LatticeKeysModel") (T := T_M) (N := 14) hx hb hts (wg_ft i_M) hown hK hP 0 rfl rfl 2 (by decide) (hts _ (wg_t kw_1528)) (fun _ h9 => h9) rfl dM_show_42 ?_
          refine mi_ge (tgt := 83) hx hb dM_show_45 (by decide) (by omega) (by omega) (fun h25 => absurd h25 (by omega)) (fun h25 => ?_)
          refine lv_aload_n hx hb dM_show_48 rfl (lv_at hl 1 rfl) ?_
          refine va_get (D := g.1) (ci := 8) (C := "LatticeKeysModel") (T := T_M) (N := 14) hx hb hts (wg_ft i_M) hown hK hP 0 rfl rfl 5 (by decide) (hts _ (wg_t kw_1531)) (fun _ h9 => h9) rfl dM_show_49 ?_
          refine lv_iload_n hx hb dM_show_52 rfl (lv_at hl 0 rfl) ?_
          refine lv_iload_n hx hb dM_show_53 rfl (lv_at hl 3 rfl) ?_
          refine lv_if_eq (tgt := 68) hx hb dM_show_54 (by decide) (fun h26 => ?_) (fun h26 => ?_)
          · have hz9 := hz222 h26
            refine lv_aload_n hx hb dM_show_68 rfl (lv_at hl 1 rfl) ?_
            refine va_get (D := g.1) (ci := 8) (C := "LatticeKeysModel") (T := T_M) (N := 14) hx hb hts (wg_ft i_M) hown hK hP 0 rfl rfl 7 (by decide) (hts _ (wg_t kw_1533)) (fun _ h9 => h9) rfl dM_show_69 ?_
            refine lv_iload_n hx hb dM_show_72 rfl (lv_at hl 2 rfl) ?_
            refine ty_aald4 hx hb hK hO k_mo (nxg clo_nil k_mo rfl) hP (by omega) dM_show_73 (fun r25 kr21 => ?_)
            refine lv_iload_n hx hb dM_show_74 rfl (lv_at hl 0 rfl) ?_
            refine ty_bald hx hb hK hO kr21 (nxg clo_nil kr21 rfl) hP (vp_in_nI (by omega) (by decide)) dM_show_75 (fun z24 => ?_)
            refine ty_bast hx hb hK hO k_mr_ (nxg clo_nil k_mr_ rfl) hP hD hS (vp_in_nI (by omega) (by decide)) dM_show_76 (fun pl H locs hO hP hD hS => ?_)
            refine mi_iinc (k := 0) (x := i21) (d := 1) (y := i21 + 1) (lv' := [(3, .int (nI (i21 + 1))), (0, .ref h0), (1, .int (nI z21)), (2, .int sc)]) hx hb dM_show_77 hl rfl (by decide) rfl (by decide) rfl (fun ls hl => ?_)
            refine lv_goto (tgt := 40) hx hb dM_show_80 (by decide) ?_
            exact ih21 (i21 + 1) pl ls H locs (by omega) (lv_sub hl [0, 1, 2, 3] rfl) hO hP hD hS
          · refine lv_aload_n hx hb dM_show_57 rfl (lv_at hl 1 rfl) ?_
            refine va_get (D := g.1) (ci := 8) (C := "LatticeKeysModel") (T := T_M) (N := 14) hx hb hts (wg_ft i_M) hown hK hP 0 rfl rfl 8 (by decide) (hts _ (wg_t kw_1534)) (fun _ h9 => h9) rfl dM_show_58 ?_
            refine lv_iload_n hx hb dM_show_61 rfl (lv_at hl 2 rfl) ?_
            refine ty_aald4 hx hb hK hO k_mh (nxg clo_nil k_mh rfl) hP (by omega) dM_show_62 (fun r26 kr22 => ?_)
            refine lv_iload_n hx hb dM_show_63 rfl (lv_at hl 0 rfl) ?_
            refine ty_bald hx hb hK hO kr22 (nxg clo_nil kr22 rfl) hP (vp_in_nI (by omega) (by decide)) dM_show_64 (fun z25 => ?_)
            refine lv_goto (tgt := 76) hx hb dM_show_65 (by decide) ?_
            refine ty_bast hx hb hK hO k_mr_ (nxg clo_nil k_mr_ rfl) hP hD hS (vp_in_nI (by omega) (by decide)) dM_show_76 (fun pl H locs hO hP hD hS => ?_)
            refine mi_iinc (k := 0) (x := i21) (d := 1) (y := i21 + 1) (lv' := [(3, .int (nI (i21 + 1))), (0, .ref h0), (1, .int (nI z21)), (2, .int sc)]) hx hb dM_show_77 hl rfl (by decide) rfl (by decide) rfl (fun ls hl => ?_)
            refine lv_goto (tgt := 40) hx hb dM_show_80 (by decide) ?_
            exact ih21 (i21 + 1) pl ls H locs (by omega) (lv_sub hl [0, 1, 2, 3] rfl) hO hP hD hS
      exact lp21 z23 0 pl ls _ _ (by omega) (lv_sub hl [0, 1, 2, 3] rfl) hO hP hD hS
    · refine lv_aload_n hx hb dM_show_22 rfl (lv_at hl 0 rfl) ?_
      refine lv_iconst (v := nI 1) hx hb dM_show_23 (by decide) ?_
      refine mp_i (cx := [(h0, .inr (8, [.int (nI 0), .int (nI tp), .int (nI rs), .int (nI ks), .ref mt, .ref mr_, .ref mk, .ref mo, .ref mh, .ref mse, .ref mhs, .ref msp, .ref msc, .ref mha])), (mse, .inl (g.2.1 0, 8, .inl fS))]) (wr := []) hP hD hS hA [0, 1] [] rfl rfl rfl (by decide) (va_runV (As := [.int (nI 1)]) (rest := []) F (t_M_fail l g _ T  pl hO hU  (nI 1) h0 mt mr_ mk mo mh mse mhs msp msc mha tp rs ks (nI 0) fS k_mt k_mr_ k_mk k_mo k_mh k_mhs k_msp k_msc k_mha (by omega) hS5) (cwV 1 hts (wg_app (wg_c kw_1577 (wg_c kw_1579 (wg_c ks_50 (wg_c kw_9 wg_n)))) kw_1580) rfl rfl rfl (by decide +kernel) ⟨by decide, by decide⟩) (pp_V (en_ok g) (q0 := 0) hK hP hD hS hA hE [0, 1] rfl rfl rfl rfl) rfl rfl hl.1 rfl (lv_room (Nat.le_of_ble_eq_true rfl)) dM_show_24 ⟨by omega, by omega⟩) (fun r27 u23 H locs hu25 hP hD hS => ?_)
      obtain ⟨u24, pl⟩ := u23
      obtain ⟨hq25, hO⟩ := hu25
      obtain ⟨th22, tp22, rs22, ks22, fS22⟩ := u24
      have hP : va_P g.1 vcl ([(h0, .inr (8, [.int th22, .int (nI tp22), .int (nI rs22), .int (nI ks22), .ref mt, .ref mr_, .ref mk, .ref mo, .ref mh, .ref mse, .ref mhs, .ref msp, .ref msc, .ref mha])), (mse, .inl (g.2.1 0, 8, .inl fS22))] ++ pl) _ := hP
      have hD : va_D _ ([(h0, .inr (8, [.int th22, .int (nI tp22), .int (nI rs22), .int (nI ks22), .ref mt, .ref mr_, .ref mk, .ref mo, .ref mh, .ref mse, .ref mhs, .ref msp, .ref msc, .ref mha])), (mse, .inl (g.2.1 0, 8, .inl fS22))] ++ pl) := hD
      obtain ⟨-, -, -, hm30, hm31⟩ := hq25
      obtain ⟨he26, he27, he28, he29, he30⟩ := hm31
      have he26 : th22 = nI 1 := he26
      have he27 : tp22 = tp := he27
      have he28 : rs22 = rs := he28
      have he29 : ks22 = ks := he29
      obtain rfl := he30
      refine W.widen (k := 0) (n := 0) (by omega) (by omega) ?_
      exact mp_iret hx hb hr hlk hP hD hS ((th22, tp22, rs22, ks22, fS22), pl) ⟨⟨(by show tp22 ≤ 16384; omega), (by show rs22 ≤ 8192; omega), (by show ks22 ≤ 8; omega), hm30⟩, hO⟩ [0, 1] rfl rfl rfl (by omega) (by omega) dM_show_27
set_option maxHeartbeats 4000000 in
set_option maxRecDepth 100000 in
theorem t_M_told (l : Launch) (g : Gd) (sz : Nat) (T : Ty) (pl : va_W) (hO : okx g T [] pl) (hU : uni T) (v : Int32) (v2 : Int32) (h0 mt mr_ mk mo mh mse mhs msp msc mha tp rs ks : Nat) (x0 : Int32) (fS : Nat → Int32) (k_mt : T mt = some (1, 16384)) (k_mr_ : T mr_ = some (1, 8192)) (k_mk : T mk = some (1, 8192)) (k_mo : T mo = some (4, 2592)) (k_mh : T mh = some (4, 4896)) (k_mhs : T mhs = some (5, 4896)) (k_msp : T msp = some (20, 0)) (k_msc : T msc = some (23, 0)) (k_mha : T mha = some (49, 0)) (hb : tp ≤ 16384 ∧ rs ≤ 8192 ∧ ks ≤ 8) (hS5 : s5 fS)  : Met l y_M_told w_M_told ({ frames := 3, cells := 0, slots := 0, locals := 62 } : Room) (va_Pc [.ref h0, .int v, .int v2] (pr (en g) g.1 vcl sz ([(h0, .inr (8, [.int x0, .int (nI tp), .int (nI rs), .int (nI ks), .ref mt, .ref mr_, .ref mk, .ref mo, .ref mh, .ref mse, .ref mhs, .ref msp, .ref msc, .ref mha])), (mse, .inl (g.2.1 0, 8, .inl fS))] ++ pl))) (va_Qi (fun (r : Int32) (u : (Int32 × Nat × Nat × Nat × (Nat → Int32)) × va_W) => (u.1.2.1 ≤ 16384 ∧ u.1.2.2.1 ≤ 8192 ∧ u.1.2.2.2.1 ≤ 8 ∧ s5 u.1.2.2.2.2) ∧ okx g T [] u.2) (po g.1 vcl (va_A ([(h0, .inr (8, [.int x0, .int (nI tp), .int (nI rs), .int (nI ks), .ref mt, .ref mr_, .ref mk, .ref mo, .ref mh, .ref mse, .ref mhs, .ref msp, .ref msc, .ref mha])), (mse, .inl (g.2.1 0, 8, .inl fS))] ++ pl) sz) (fun (u : (Int32 × Nat × Nat × Nat × (Nat → Int32)) × va_W) => [(h0, .inr (8, [.int u.1.1, .int (nI (u.1.2.1)), .int (nI (u.1.2.2.1)), .int (nI (u.1.2.2.2.1)), .ref mt, .ref mr_, .ref mk, .ref mo, .ref mh, .ref mse, .ref mhs, .ref msp, .ref msc, .ref mha])), (mse, .inl (g.2.1 0, 8, .inl ((u.1.2.2.2.2))))] ++ u.2)) (va_A ([(h0, .inr (8, [.int x0, .int (nI tp), .int (nI rs), .int (nI ks), .ref mt, .ref mr_, .ref mk, .ref mo, .ref mh, .ref mse, .ref mhs, .ref msp, .ref msc, .ref mha])), (mse, .inl (g.2.1 0, 8, .inl fS))] ++ pl) sz)) 0 0 (va_A ([(h0, .inr (8, [.int x0, .int (nI tp), .int (nI rs), .int (nI ks), .ref mt, .ref mr_, .ref mk, .ref mo, .ref mh, .ref mse, .ref mhs, .ref msp, .ref msc, .ref mha])), (mse, .inl (g.2.1 0, 8, .inl fS))] ++ pl) sz) := by
  refine mc_entry (cc := c_M_told) (maxL := 3) (ret := (some .int)) (by decide) rfl (Nat.le_of_ble_eq_true rfl) ?_
  intro p e s m args below meth c ls F hr hlk hnm hsz hP hD hE hA hl
  obtain ⟨hx, hb, hml, hown, hts⟩ := id F
  have hK := hE.1
  generalize va_A ([(h0, .inr (8, [.int x0, .int (nI tp), .int (nI rs), .int (nI ks), .ref mt, .ref mr_, .ref mk, .ref mo, .ref mh, .ref mse, .ref mhs, .ref msp, .ref msc, .ref mha])), (mse, .inl (g.2.1 0, 8, .inl fS))] ++ pl) sz = A at hD hE hA ⊢
  have hS : va_S A s.heap s.heap [] := va_S.rf
  have hl : lv_has ls 3 [(0, .ref h0), (1, .int v), (2, .int v2)] := hl
  refine lv_aload_n hx hb dM_told_0 rfl (lv_at hl 0 rfl) ?_
  refine lv_iconst (v := nI 0) hx hb dM_told_1 (by decide) ?_
  refine va_put (D := g.1) (ci := 8) (v := .int (nI 0)) (ty := .int) (C := "LatticeKeysModel") (T := T_M) (N := 14) hx hb hts (wg_ft i_M) ty_M k_M n_M hown hK hP hD hS 0 rfl rfl 0 (by decide) (hts _ (wg_t kw_1526)) (fun _ h9 => h9) rfl (by decide +kernel) rfl rfl (Nat.le_of_ble_eq_true rfl) dM_told_2 (fun H locs hP hD hS => ?_)
  have hP : va_P g.1 vcl ([(h0, .inr (8, [.int (nI 0), .int (nI tp), .int (nI rs), .int (nI ks), .ref mt, .ref mr_, .ref mk, .ref mo, .ref mh, .ref mse, .ref mhs, .ref msp, .ref msc, .ref mha])), (mse, .inl (g.2.1 0, 8, .inl fS))] ++ pl) _ := hP
  have hD : va_D _ ([(h0, .inr (8, [.int (nI 0), .int (nI tp), .int (nI rs), .int (nI ks), .ref mt, .ref mr_, .ref mk, .ref mo, .ref mh, .ref mse, .ref mhs, .ref msp, .ref msc, .ref mha])), (mse, .inl (g.2.1 0, 8, .inl fS))] ++ pl) := hD
  refine lv_aload_n hx hb dM_told_5 rfl (lv_at hl 0 rfl) ?_
  refine lv_iload_n hx hb dM_told_6 rfl (lv_at hl 1 rfl) ?_
  refine mp_i (cx := [(h0, .inr (8, [.int (nI 0), .int (nI tp), .int (nI rs), .int (nI ks), .ref mt, .ref mr_, .ref mk, .ref mo, .ref mh, .ref mse, .ref mhs, .ref msp, .ref msc, .ref mha])), (mse, .inl (g.2.1 0, 8, .inl fS))]) (wr := []) hP hD hS hA [0, 1] [] rfl rfl rfl (by decide) (va_runV (As := [.int v]) (rest := []) F (t_M_none l g _ T  pl hO hU  v h0 mt mr_ mk mo mh mse mhs msp msc mha tp rs ks (nI 0) fS k_mt k_mr_ k_mk k_mo k_mh k_mhs k_msp k_msc k_mha (by omega) hS5) (cwV 1 hts (wg_app (wg_c kw_1781 (wg_c kw_1783 (wg_c ks_65 (wg_c kw_9 wg_n)))) kw_1784) rfl rfl rfl (by decide +kernel) ⟨by decide, by decide⟩) (pp_V (en_ok g) (q0 := 0) hK hP hD hS hA hE [0, 1] rfl rfl rfl rfl) rfl rfl hl.1 rfl (lv_room (Nat.le_of_ble_eq_true rfl)) dM_told_7 ⟨by omega, by omega⟩) (fun r21 pl H locs hu21 hP hD hS => ?_)
  obtain ⟨hq21, hO⟩ := hu21
  have hP : va_P g.1 vcl ([(h0, .inr (8, [.int (nI 0), .int (nI tp), .int (nI rs), .int (nI ks), .ref mt, .ref mr_, .ref mk, .ref mo, .ref mh, .ref mse, .ref mhs, .ref msp, .ref msc, .ref mha])), (mse, .inl (g.2.1 0, 8, .inl fS))] ++ pl) _ := hP
  have hD : va_D _ ([(h0, .inr (8, [.int (nI 0), .int (nI tp), .int (nI rs), .int (nI ks), .ref mt, .ref mr_, .ref mk, .ref mo, .ref mh, .ref mse, .ref mhs, .ref msp, .ref msc, .ref mha])), (mse, .inl (g.2.1 0, 8, .inl fS))] ++ pl) := hD
  refine W.widen (k := 0) (n := 0) (by omega) (by omega) ?_
  rcases hq21 with hq21 | hq21
  · obtain rfl := hq21
    refine lv_if_eq (tgt := 19) hx hb dM_told_10 (by decide) (fun h21 => absurd h21 (by decide)) (fun h21 => ?_)
    refine lv_aload_n hx hb dM_told_13 rfl (lv_at hl 0 rfl) ?_
    refine lv_iconst (v := nI 1) hx hb dM_told_14 (by decide) ?_
    refine mp_i (cx := [(h0, .inr (8, [.int (nI 0), .int (nI tp), .int (nI rs), .int (nI ks), .ref mt, .ref mr_, .ref mk, .ref mo, .ref mh, .ref mse, .ref mhs, .ref msp, .ref msc, .ref mha])), (mse, .inl (g.2.1 0, 8, .inl fS))]) (wr := []) hP hD hS hA [0, 1] [] rfl rfl rfl (by decide) (va_runV (As := [.int (nI 1)]) (rest := []) F (t_M_fail l g _ T  pl hO hU  (nI 1) h0 mt mr_ mk mo mh mse mhs msp msc mha tp rs ks (nI 0) fS k_mt k_mr_ k_mk k_mo k_mh k_mhs k_msp k_msc k_mha (by omega) hS5) (cwV 1 hts (wg_app (wg_c kw_1577 (wg_c kw_1579 (wg_c ks_50 (wg_c kw_9 wg_n)))) kw_1580) rfl rfl rfl (by decide +kernel) ⟨by decide, by decide⟩) (pp_V (en_ok g) (q0 := 0) hK hP hD hS hA hE [0, 1] rfl rfl rfl rfl) rfl rfl hl.1 rfl (lv_room (Nat.le_of_ble_eq_true rfl)) dM_told_15 ⟨by omega, by omega⟩) (fun r22 u21 H locs hu22 hP hD hS => ?_)
    obtain ⟨u22, pl⟩ := u21
    obtain ⟨hq22, hO⟩ := hu22
    obtain ⟨th21, tp21, rs21, ks21, fS21⟩ := u22
    have hP : va_P g.1 vcl ([(h0, .inr (8, [.int th21, .int (nI tp21), .int (nI rs21), .int (nI ks21), .ref mt, .ref mr_, .ref mk, .ref mo, .ref mh, .ref mse, .ref mhs, .ref msp, .ref msc, .ref mha])), (mse, .inl (g.2.1 0, 8, .inl fS21))] ++ pl) _ := hP
    have hD : va_D _ ([(h0, .inr (8, [.int th21, .int (nI tp21), .int (nI rs21), .int (nI ks21), .ref mt, .ref mr_, .ref mk, .ref mo, .ref mh, .ref mse, .ref mhs, .ref msp, .ref msc, .ref mha])), (mse, .inl (g.2.1 0, 8, .inl fS21))] ++ pl) := hD
    obtain ⟨-, -, -, hm24, hm25⟩ := hq22
    obtain ⟨he21, he22, he23, he24, he25⟩ := hm25
    have he21 : th21 = nI 1 := he21
    have he22 : tp21 = tp := he22
    have he23 : rs21 = rs := he23
    have he24 : ks21 = ks := he24
    obtain rfl := he25
    refine W.widen (k := 0) (n := 0) (by omega) (by omega) ?_
    exact mp_iret hx hb hr hlk hP hD hS ((th21, tp21, rs21, ks21, fS21), pl) ⟨⟨(by show tp21 ≤ 16384; omega), (by show rs21 ≤ 8192; omega), (by show ks21 ≤ 8; omega), hm24⟩, hO⟩ [0, 1] rfl rfl rfl (by omega) (by omega) dM_told_18
  · obtain ⟨rfl, z21, hz21, rfl⟩ := hq21
    refine lv_if_eq (tgt := 19) hx hb dM_told_10 (by decide) (fun h22 => ?_) (fun h22 => absurd h22 (by decide))
    refine lv_iload_n hx hb dM_told_19 rfl (lv_at hl 2 rfl) ?_
    rcases rng (v := v2) 2 (by decide) with hb9 | hb9
    · obtain ⟨j9, hj9, rfl⟩ := hb9
      match j9, hj9 with
      | 0, _ =>
        refine lv_tableIn (off := 28) (tgt := 48) hx hb dM_told_20 (by decide) (by decide) (by decide) (by decide) ?_
        refine lv_aload_n hx hb dM_told_48 rfl (lv_at hl 0 rfl) ?_
        refine va_get (D := g.1) (ci := 8) (C := "LatticeKeysModel") (T := T_M) (N := 14) hx hb hts (wg_ft i_M) hown hK hP 0 rfl rfl 9 (by decide) (hts _ (wg_t kw_1535)) (fun _ h9 => h9) rfl dM_told_49 ?_
        refine lv_iload_n hx hb dM_told_52 rfl (lv_at hl 1 rfl) ?_
        refine mp_iald hx hb hK hP 1 0 rfl rfl (by omega) (by decide) dM_told_53 ?_
        obtain ⟨y21, hy21, ey21⟩ := hS5 z21 (by omega)
        match y21, hy21, ey21 with
        | 0, _, ey21 =>
          refine mi_as ey21 ?_
          exact mp_iret hx hb hr hlk hP hD hS ((nI 0, tp, rs, ks, fS), pl) ⟨⟨(by show tp ≤ 16384; omega), (by show rs ≤ 8192; omega), (by show ks ≤ 8; omega), hS5⟩, hO⟩ [0, 1] rfl rfl rfl (by omega) (by omega) dM_told_54
        | 1, _, ey21 =>
          refine mi_as ey21 ?_
          exact mp_iret hx hb hr hlk hP hD hS ((nI 0, tp, rs, ks, fS), pl) ⟨⟨(by show tp ≤ 16384; omega), (by show rs ≤ 8192; omega), (by show ks ≤ 8; omega), hS5⟩, hO⟩ [0, 1] rfl rfl rfl (by omega) (by omega) dM_told_54
        | 2, _, ey21 =>
          refine mi_as ey21 ?_
          exact mp_iret hx hb hr hlk hP hD hS ((nI 0, tp, rs, ks, fS), pl) ⟨⟨(by show tp ≤ 16384; omega), (by show rs ≤ 8192; omega), (by show ks ≤ 8; omega), hS5⟩, hO⟩ [0, 1] rfl rfl rfl (by omega) (by omega) dM_told_54
        | 3, _, ey21 =>
          refine mi_as ey21 ?_
          exact mp_iret hx hb hr hlk hP hD hS ((nI 0, tp, rs, ks, fS), pl) ⟨⟨(by show tp ≤ 16384; omega), (by show rs ≤ 8192; omega), (by show ks ≤ 8; omega), hS5⟩, hO⟩ [0, 1] rfl rfl rfl (by omega) (by omega) dM_told_54
        | 4, _, ey21 =>
          refine mi_as ey21 ?_
          exact mp_iret hx hb hr hlk hP hD hS ((nI 0, tp, rs, ks, fS), pl) ⟨⟨(by show tp ≤ 16384; omega), (by show rs ≤ 8192; omega), (by show ks ≤ 8; omega), hS5⟩, hO⟩ [0, 1] rfl rfl rfl (by omega) (by omega) dM_told_54
        | 5, _, ey21 =>
          refine mi_as ey21 ?_
          exact mp_iret hx hb hr hlk hP hD hS ((nI 0, tp, rs, ks, fS), pl) ⟨⟨(by show tp ≤ 16384; omega), (by show rs ≤ 8192; omega), (by show ks ≤ 8; omega), hS5⟩, hO⟩ [0, 1] rfl rfl rfl (by omega) (by omega) dM_told_54
        | _ + 6, hy21, _ => exact absurd hy21 (by omega)
      | 1, _ =>
        refine lv_tableIn (off := 35) (tgt := 55) hx hb dM_told_20 (by decide) (by decide) (by decide) (by decide) ?_
        refine lv_aload_n hx hb dM_told_55 rfl (lv_at hl 0 rfl) ?_
        refine lv_iload_n hx hb dM_told_56 rfl (lv_at hl 1 rfl) ?_
        refine lv_iconst (v := nI 0) hx hb dM_told_57 (by decide) ?_
        refine mp_i (cx := [(h0, .inr (8, [.int (nI 0), .int (nI tp), .int (nI rs), .int (nI ks), .ref mt, .ref mr_, .ref mk, .ref mo, .ref mh, .ref mse, .ref mhs, .ref msp, .ref msc, .ref mha])), (mse, .inl (g.2.1 0, 8, .inl fS))]) (wr := []) hP hD hS hA [0, 1] [] rfl rfl rfl (by decide) (va_runV (As := [.int (nI z21), .int (nI 0)]) (rest := []) F (t_M_size l g _ T  pl hO hU  z21 (nI 0) h0 mt mr_ mk mo mh mse mhs msp msc mha tp rs ks (nI 0) fS k_mt k_mr_ k_mk k_mo k_mh k_mhs k_msp k_msc k_mha (by omega) hS5 (by omega)) (cwV 2 hts (wg_app (wg_c kw_1785 (wg_c kw_1787 (wg_c ks_66 (wg_c kw_9 wg_n)))) kw_1788) rfl rfl rfl (by decide +kernel) ⟨by decide, by decide⟩) (pp_V (en_ok g) (q0 := 0) hK hP hD hS hA hE [0, 1] rfl rfl rfl rfl) rfl rfl hl.1 rfl (lv_room (Nat.le_of_ble_eq_true rfl)) dM_told_58 ⟨by omega, by omega⟩) (fun r23 pl H locs hu23 hP hD hS => ?_)
        obtain ⟨hq23, hO⟩ := hu23
        have hP : va_P g.1 vcl ([(h0, .inr (8, [.int (nI 0), .int (nI tp), .int (nI rs), .int (nI ks), .ref mt, .ref mr_, .ref mk, .ref mo, .ref mh, .ref mse, .ref mhs, .ref msp, .ref msc, .ref mha])), (mse, .inl (g.2.1 0, 8, .inl fS))] ++ pl) _ := hP
        have hD : va_D _ ([(h0, .inr (8, [.int (nI 0), .int (nI tp), .int (nI rs), .int (nI ks), .ref mt, .ref mr_, .ref mk, .ref mo, .ref mh, .ref mse, .ref mhs, .ref msp, .ref msc, .ref mha])), (mse, .inl (g.2.1 0, 8, .inl fS))] ++ pl) := hD
        obtain ⟨z22, hz22, rfl, hz221⟩ := hq23
        refine W.widen (k := 0) (n := 0) (by omega) (by omega) ?_
        exact mp_iret hx hb hr hlk hP hD hS ((nI 0, tp, rs, ks, fS), pl) ⟨⟨(by show tp ≤ 16384; omega), (by show rs ≤ 8192; omega), (by show ks ≤ 8; omega), hS5⟩, hO⟩ [0, 1] rfl rfl rfl (by omega) (by omega) dM_told_61
      | 2, _ =>
        refine lv_tableIn (off := 42) (tgt := 62) hx hb dM_told_20 (by decide) (by decide) (by decide) (by decide) ?_
        refine lv_aload_n hx hb dM_told_62 rfl (lv_at hl 0 rfl) ?_
        refine lv_iload_n hx hb dM_told_63 rfl (lv_at hl 1 rfl) ?_
        refine lv_iconst (v := nI 1) hx hb dM_told_64 (by decide) ?_
        refine mp_i (cx := [(h0, .inr (8, [.int (nI 0), .int (nI tp), .int (nI rs), .int (nI ks), .ref mt, .ref mr_, .ref mk, .ref mo, .ref mh, .ref mse, .ref mhs, .ref msp, .ref msc, .ref mha])), (mse, .inl (g.2.1 0, 8, .inl fS))]) (wr := []) hP hD hS hA [0, 1] [] rfl rfl rfl (by decide) (va_runV (As := [.int (nI z21), .int (nI 1)]) (rest := []) F (t_M_size l g _ T  pl hO hU  z21 (nI 1) h0 mt mr_ mk mo mh mse mhs msp msc mha tp rs ks (nI 0) fS k_mt k_mr_ k_mk k_mo k_mh k_mhs k_msp k_msc k_mha (by omega) hS5 (by omega)) (cwV 2 hts (wg_app (wg_c kw_1785 (wg_c kw_1787 (wg_c ks_66 (wg_c kw_9 wg_n)))) kw_1788) rfl rfl rfl (by decide +kernel) ⟨by decide, by decide⟩) (pp_V (en_ok g) (q0 := 0) hK hP hD hS hA hE [0, 1] rfl rfl rfl rfl) rfl rfl hl.1 rfl (lv_room (Nat.le_of_ble_eq_true rfl)) dM_told_65 ⟨by omega, by omega⟩) (fun r24 pl H locs hu24 hP hD hS => ?_)
        obtain ⟨hq24, hO⟩ := hu24
        have hP : va_P g.1 vcl ([(h0, .inr (8, [.int (nI 0), .int (nI tp), .int (nI rs), .int (nI ks), .ref mt, .ref mr_, .ref mk, .ref mo, .ref mh, .ref mse, .ref mhs, .ref msp, .ref msc, .ref mha])), (mse, .inl (g.2.1 0, 8, .inl fS))] ++ pl) _ := hP
        have hD : va_D _ ([(h0, .inr (8, [.int (nI 0), .int (nI tp), .int (nI rs), .int (nI ks), .ref mt, .ref mr_, .ref mk, .ref mo, .ref mh, .ref mse, .ref mhs, .ref msp, .ref msc, .ref mha])), (mse, .inl (g.2.1 0, 8, .inl fS))] ++ pl) := hD
        obtain ⟨z23, hz23, rfl, hz222⟩ := hq24
        refine W.widen (k := 0) (n := 0) (by omega) (by omega) ?_
        exact mp_iret hx hb hr hlk hP hD hS ((nI 0, tp, rs, ks, fS), pl) ⟨⟨(by show tp ≤ 16384; omega), (by show rs ≤ 8192; omega), (by show ks ≤ 8; omega), hS5⟩, hO⟩ [0, 1] rfl rfl rfl (by omega) (by omega) dM_told_68
      | _ + 3, h9 => exact absurd h9 (by omega)
    · refine lv_tableOut (tgt := 69) hx hb dM_told_20 (tout (by decide) hb9) (by decide) ?_
      refine lv_aload_n hx hb dM_told_69 rfl (lv_at hl 0 rfl) ?_
      refine lv_iconst (v := nI 2) hx hb dM_told_70 (by decide) ?_
      refine mp_i (cx := [(h0, .inr (8, [.int (nI 0), .int (nI tp), .int (nI rs), .int (nI ks), .ref mt, .ref mr_, .ref mk, .ref mo, .ref mh, .ref mse, .ref mhs, .ref msp, .ref msc, .ref mha])), (mse, .inl (g.2.1 0, 8, .inl fS))]) (wr := []) hP hD hS hA [0, 1] [] rfl rfl rfl (by decide) (va_runV (As := [.int (nI 2)]) (rest := []) F (t_M_fail l g _ T  pl hO hU  (nI 2) h0 mt mr_ mk mo mh mse mhs msp msc mha tp rs ks (nI 0) fS k_mt k_mr_ k_mk k_mo k_mh k_mhs k_msp k_msc k_mha (by omega) hS5) (cwV 1 hts (wg_app (wg_c kw_1577 (wg_c kw_1579 (wg_c ks_50 (wg_c kw_9 wg_n)))) kw_1580) rfl rfl rfl (by decide +kernel) ⟨by decide, by decide⟩) (pp_V (en_ok g) (q0 := 0) hK hP hD hS hA hE [0, 1] rfl rfl rfl rfl) rfl rfl hl.1 rfl (lv_room (Nat.le_of_ble_eq_true rfl)) dM_told_71 ⟨by omega, by omega⟩) (fun r25 u23 H locs hu25 hP hD hS => ?_)
      obtain ⟨u24, pl⟩ := u23
      obtain ⟨hq25, hO⟩ := hu25
      obtain ⟨th22, tp22, rs22, ks22, fS22⟩ := u24
      have hP : va_P g.1 vcl ([(h0, .inr (8, [.int th22, .int (nI tp22), .int (nI rs22), .int (nI ks22), .ref mt, .ref mr_, .ref mk, .ref mo, .ref mh, .ref mse, .ref mhs, .ref msp, .ref msc, .ref mha])), (mse, .inl (g.2.1 0, 8, .inl fS22))] ++ pl) _ := hP
      have hD : va_D _ ([(h0, .inr (8, [.int th22, .int (nI tp22), .int (nI rs22), .int (nI ks22), .ref mt, .ref mr_, .ref mk, .ref mo, .ref mh, .ref mse, .ref mhs, .ref msp, .ref msc, .ref mha])), (mse, .inl (g.2.1 0, 8, .inl fS22))] ++ pl) := hD
      obtain ⟨-, -, -, hm29, hm30⟩ := hq25
      obtain ⟨he26, he27, he28, he29, he30⟩ := hm30
      have he26 : th22 = nI 2 := he26
      have he27 : tp22 = tp := he27
      have he28 : rs22 = rs := he28
      have he29 : ks22 = ks := he29
      obtain rfl := he30
      refine W.widen (k := 0) (n := 0) (by omega) (by omega) ?_
      exact mp_iret hx hb hr hlk hP hD hS ((th22, tp22, rs22, ks22, fS22), pl) ⟨⟨(by show tp22 ≤ 16384; omega), (by show rs22 ≤ 8192; omega), (by show ks22 ≤ 8; omega), hm29⟩, hO⟩ [0, 1] rfl rfl rfl (by omega) (by omega) dM_told_74
set_option maxHeartbeats 4000000 in
set_option maxRecDepth 100000 in
theorem t_M_thrown (l : Launch) (g : Gd) (sz : Nat) (T : Ty) (pl : va_W) (hO : okx g T [] pl) (hU : uni T) (h0 mt mr_ mk mo mh mse mhs msp msc mha tp rs ks : Nat) (x0 : Int32) (fS : Nat → Int32) (k_mt : T mt = some (1, 16384)) (k_mr_ : T mr_ = some (1, 8192)) (k_mk : T mk = some (1, 8192)) (k_mo : T mo = some (4, 2592)) (k_mh : T mh = some (4, 4896)) (k_mhs : T mhs = some (5, 4896)) (k_msp : T msp = some (20, 0)) (k_msc : T msc = some (23, 0)) (k_mha : T mha = some (49, 0)) (hb : tp ≤ 16384 ∧ rs ≤ 8192 ∧ ks ≤ 8) (hS5 : s5 fS)  : Met l y_M_thrown w_M_thrown ({ frames := 0, cells := 0, slots := 0, locals := 0 } : Room) (va_Pc [.ref h0] (pr (en g) g.1 vcl sz ([(h0, .inr (8, [.int x0, .int (nI tp), .int (nI rs), .int (nI ks), .ref mt, .ref mr_, .ref mk, .ref mo, .ref mh, .ref mse, .ref mhs, .ref msp, .ref msc, .ref mha])), (mse, .inl (g.2.1 0, 8, .inl fS))] ++ pl))) (va_Qi (fun (r : Int32) (u : va_W) => (r = x0) ∧ okx g T [] u) (po g.1 vcl (va_A ([(h0, .inr (8, [.int x0, .int (nI tp), .int (nI rs), .int (nI ks), .ref mt, .ref mr_, .ref mk, .ref mo, .ref mh, .ref mse, .ref mhs, .ref msp, .ref msc, .ref mha])), (mse, .inl (g.2.1 0, 8, .inl fS))] ++ pl) sz) (fun (u : va_W) => [(h0, .inr (8, [.int x0, .int (nI tp), .int (nI rs), .int (nI ks), .ref mt, .ref mr_, .ref mk, .ref mo, .ref mh, .ref mse, .ref mhs, .ref msp, .ref msc, .ref mha])), (mse, .inl (g.2.1 0, 8, .inl fS))] ++ u)) (va_A ([(h0, .inr (8, [.int x0, .int (nI tp), .int (nI rs), .int (nI ks), .ref mt, .ref mr_, .ref mk, .ref mo, .ref mh, .ref mse, .ref mhs, .ref msp, .ref msc, .ref mha])), (mse, .inl (g.2.1 0, 8, .inl fS))] ++ pl) sz)) 0 0 (va_A ([(h0, .inr (8, [.int x0, .int (nI tp), .int (nI rs), .int (nI ks), .ref mt, .ref mr_, .ref mk, .ref mo, .ref mh, .ref mse, .ref mhs, .ref msp, .ref msc, .ref mha])), (mse, .inl (g.2.1 0, 8, .inl fS))] ++ pl) sz) := by
  refine mc_entry (cc := c_M_thrown) (maxL := 1) (ret := (some .int)) (by decide) rfl (Nat.le_of_ble_eq_true rfl) ?_
  intro p e s m args below meth c ls F hr hlk hnm hsz hP hD hE hA hl
  obtain ⟨hx, hb, hml, hown, hts⟩ := id F
  have hK := hE.1
  generalize va_A ([(h0, .inr (8, [.int x0, .int (nI tp), .int (nI rs), .int (nI ks), .ref mt, .ref mr_, .ref mk, .ref mo, .ref mh, .ref mse, .ref mhs, .ref msp, .ref msc, .ref mha])), (mse, .inl (g.2.1 0, 8, .inl fS))] ++ pl) sz = A at hD hE hA ⊢
  have hS : va_S A s.heap s.heap [] := va_S.rf
  have hl : lv_has ls 1 [(0, .ref h0)] := hl
  refine lv_aload_n hx hb dM_thrown_0 rfl (lv_at hl 0 rfl) ?_
  refine va_get (D := g.1) (ci := 8) (C := "LatticeKeysModel") (T := T_M) (N := 14) hx hb hts (wg_ft i_M) hown hK hP 0 rfl rfl 0 (by decide) (hts _ (wg_t kw_1526)) (fun _ h9 => h9) rfl dM_thrown_1 ?_
  exact mp_iret hx hb hr hlk hP hD hS pl ⟨rfl, hO⟩ [0, 1] rfl rfl rfl (by omega) (by omega) dM_thrown_4
set_option maxHeartbeats 4000000 in
set_option maxRecDepth 100000 in
theorem t_M_hash (l : Launch) (g : Gd) (sz : Nat) (T : Ty) (pl : va_W) (hO : okx g T [] pl) (hU : uni T) (v : Int32) (v2 : Int32) (h0 mt mr_ mk mo mh mse mhs msp msc mha tp rs ks : Nat) (x0 : Int32) (fS : Nat → Int32) (k_mt : T mt = some (1, 16384)) (k_mr_ : T mr_ = some (1, 8192)) (k_mk : T mk = some (1, 8192)) (k_mo : T mo = some (4, 2592)) (k_mh : T mh = some (4, 4896)) (k_mhs : T mhs = some (5, 4896)) (k_msp : T msp = some (20, 0)) (k_msc : T msc = some (23, 0)) (k_mha : T mha = some (49, 0)) (hb : tp ≤ 16384 ∧ rs ≤ 8192 ∧ ks ≤ 8) (hS5 : s5 fS)  : Met l y_M_hash w_M_hash ({ frames := 4, cells := 0, slots := 0, locals := 98 } : Room) (va_Pc [.ref h0, .int v, .int v2] (pr (en g) g.1 vcl sz ([(h0, .inr (8, [.int x0, .int (nI tp), .int (nI rs), .int (nI ks), .ref mt, .ref mr_, .ref mk, .ref mo, .ref mh, .ref mse, .ref mhs, .ref msp, .ref msc, .ref mha])), (mse, .inl (g.2.1 0, 8, .inl fS))] ++ pl))) (va_Qi (fun (r : Int32) (u : (Int32 × Nat × Nat × Nat × (Nat → Int32)) × va_W) => (u.1.2.1 ≤ 16384 ∧ u.1.2.2.1 ≤ 8192 ∧ u.1.2.2.2.1 ≤ 8 ∧ s5 u.1.2.2.2.2 ∧ u.1.1 = (hval v v2).1 ∧ (u.1.1 = nI 0 → r = (hval v v2).2)) ∧ okx g T [] u.2) (po g.1 vcl (va_A ([(h0, .inr (8, [.int x0, .int (nI tp), .int (nI rs), .int (nI ks), .ref mt, .ref mr_, .ref mk, .ref mo, .ref mh, .ref mse, .ref mhs, .ref msp, .ref msc, .ref mha])), (mse, .inl (g.2.1 0, 8, .inl fS))] ++ pl) sz) (fun (u : (Int32 × Nat × Nat × Nat × (Nat → Int32)) × va_W) => [(h0, .inr (8, [.int u.1.1, .int (nI (u.1.2.1)), .int (nI (u.1.2.2.1)), .int (nI (u.1.2.2.2.1)), .ref mt, .ref mr_, .ref mk, .ref mo, .ref mh, .ref mse, .ref mhs, .ref msp, .ref msc, .ref mha])), (mse, .inl (g.2.1 0, 8, .inl ((u.1.2.2.2.2))))] ++ u.2)) (va_A ([(h0, .inr (8, [.int x0, .int (nI tp), .int (nI rs), .int (nI ks), .ref mt, .ref mr_, .ref mk, .ref mo, .ref mh, .ref mse, .ref mhs, .ref msp, .ref msc, .ref mha])), (mse, .inl (g.2.1 0, 8, .inl fS))] ++ pl) sz)) 0 0 (va_A ([(h0, .inr (8, [.int x0, .int (nI tp), .int (nI rs), .int (nI ks), .ref mt, .ref mr_, .ref mk, .ref mo, .ref mh, .ref mse, .ref mhs, .ref msp, .ref msc, .ref mha])), (mse, .inl (g.2.1 0, 8, .inl fS))] ++ pl) sz) := by
  refine mc_entry (cc := c_M_hash) (maxL := 3) (ret := (some .int)) (by decide) rfl (Nat.le_of_ble_eq_true rfl) ?_
  intro p e s m args below meth c ls F hr hlk hnm hsz hP hD hE hA hl
  obtain ⟨hx, hb, hml, hown, hts⟩ := id F
  have hK := hE.1
  generalize va_A ([(h0, .inr (8, [.int x0, .int (nI tp), .int (nI rs), .int (nI ks), .ref mt, .ref mr_, .ref mk, .ref mo, .ref mh, .ref mse, .ref mhs, .ref msp, .ref msc, .ref mha])), (mse, .inl (g.2.1 0, 8, .inl fS))] ++ pl) sz = A at hD hE hA ⊢
  have hS : va_S A s.heap s.heap [] := va_S.rf
  have hl : lv_has ls 3 [(0, .ref h0), (1, .int v), (2, .int v2)] := hl
  refine lv_aload_n hx hb dM_hash_0 rfl (lv_at hl 0 rfl) ?_
  refine lv_iconst (v := nI 0) hx hb dM_hash_1 (by decide) ?_
  refine va_put (D := g.1) (ci := 8) (v := .int (nI 0)) (ty := .int) (C := "LatticeKeysModel") (T := T_M) (N := 14) hx hb hts (wg_ft i_M) ty_M k_M n_M hown hK hP hD hS 0 rfl rfl 0 (by decide) (hts _ (wg_t kw_1526)) (fun _ h9 => h9) rfl (by decide +kernel) rfl rfl (Nat.le_of_ble_eq_true rfl) dM_hash_2 (fun H locs hP hD hS => ?_)
  have hP : va_P g.1 vcl ([(h0, .inr (8, [.int (nI 0), .int (nI tp), .int (nI rs), .int (nI ks), .ref mt, .ref mr_, .ref mk, .ref mo, .ref mh, .ref mse, .ref mhs, .ref msp, .ref msc, .ref mha])), (mse, .inl (g.2.1 0, 8, .inl fS))] ++ pl) _ := hP
  have hD : va_D _ ([(h0, .inr (8, [.int (nI 0), .int (nI tp), .int (nI rs), .int (nI ks), .ref mt, .ref mr_, .ref mk, .ref mo, .ref mh, .ref mse, .ref mhs, .ref msp, .ref msc, .ref mha])), (mse, .inl (g.2.1 0, 8, .inl fS))] ++ pl) := hD
  rcases rng (v := v) 3 (by decide) with hb9 | hb9
  · obtain ⟨j9, hj9, rfl⟩ := hb9
    match j9, hj9 with
    | 0, _ =>
      refine lv_iload_n hx hb dM_hash_5 rfl (lv_at hl 1 rfl) ?_
      refine lv_if_lt (tgt := 25) hx hb dM_hash_6 (by decide) (fun h21 => absurd h21 (by decide)) (fun h21 => ?_)
      refine lv_iload_n hx hb dM_hash_9 rfl (lv_at hl 1 rfl) ?_
      refine lv_iconst (v := nI 3) hx hb dM_hash_10 (by decide) ?_
      refine mi_gt (tgt := 25) hx hb dM_hash_11 (by decide) (by omega) (by omega) (fun h22 => absurd h22 (by omega)) (fun h22 => ?_)
      refine lv_iload_n hx hb dM_hash_14 rfl (lv_at hl 2 rfl) ?_
      refine lv_if_lt (tgt := 25) hx hb dM_hash_15 (by decide) (fun h23 => ?_) (fun h23 => ?_)
      · refine lv_aload_n hx hb dM_hash_25 rfl (lv_at hl 0 rfl) ?_
        refine lv_iconst (v := nI 1) hx hb dM_hash_26 (by decide) ?_
        refine mp_i (cx := [(h0, .inr (8, [.int (nI 0), .int (nI tp), .int (nI rs), .int (nI ks), .ref mt, .ref mr_, .ref mk, .ref mo, .ref mh, .ref mse, .ref mhs, .ref msp, .ref msc, .ref mha])), (mse, .inl (g.2.1 0, 8, .inl fS))]) (wr := []) hP hD hS hA [0, 1] [] rfl rfl rfl (by decide) (va_runV (As := [.int (nI 1)]) (rest := []) F (t_M_fail l g _ T  pl hO hU  (nI 1) h0 mt mr_ mk mo mh mse mhs msp msc mha tp rs ks (nI 0) fS k_mt k_mr_ k_mk k_mo k_mh k_mhs k_msp k_msc k_mha (by omega) hS5) (cwV 1 hts (wg_app (wg_c kw_1577 (wg_c kw_1579 (wg_c ks_50 (wg_c kw_9 wg_n)))) kw_1580) rfl rfl rfl (by decide +kernel) ⟨by decide, by decide⟩) (pp_V (en_ok g) (q0 := 0) hK hP hD hS hA hE [0, 1] rfl rfl rfl rfl) rfl rfl hl.1 rfl (lv_room (Nat.le_of_ble_eq_true rfl)) dM_hash_27 ⟨by omega, by omega⟩) (fun r21 u21 H locs hu21 hP hD hS => ?_)
        obtain ⟨u22, pl⟩ := u21
        obtain ⟨hq21, hO⟩ := hu21
        obtain ⟨th21, tp21, rs21, ks21, fS21⟩ := u22
        have hP : va_P g.1 vcl ([(h0, .inr (8, [.int th21, .int (nI tp21), .int (nI rs21), .int (nI ks21), .ref mt, .ref mr_, .ref mk, .ref mo, .ref mh, .ref mse, .ref mhs, .ref msp, .ref msc, .ref mha])), (mse, .inl (g.2.1 0, 8, .inl fS21))] ++ pl) _ := hP
        have hD : va_D _ ([(h0, .inr (8, [.int th21, .int (nI tp21), .int (nI rs21), .int (nI ks21), .ref mt, .ref mr_, .ref mk, .ref mo, .ref mh, .ref mse, .ref mhs, .ref msp, .ref msc, .ref mha])), (mse, .inl (g.2.1 0, 8, .inl fS21))] ++ pl) := hD
        obtain ⟨-, -, -, hm24, hm25⟩ := hq21
        obtain ⟨he21, he22, he23, he24, he25⟩ := hm25
        have he21 : th21 = nI 1 := he21
        have he22 : tp21 = tp := he22
        have he23 : rs21 = rs := he23
        have he24 : ks21 = ks := he24
        obtain rfl := he25
        refine W.widen (k := 0) (n := 0) (by omega) (by omega) ?_
        exact mp_iret hx hb hr hlk hP hD hS ((th21, tp21, rs21, ks21, fS21), pl) ⟨⟨(by show tp21 ≤ 16384; omega), (by show rs21 ≤ 8192; omega), (by show ks21 ≤ 8; omega), hm24, (by rw [hval_bad (Or.inr (Or.inr (Or.inl h23)))]; exact he21), (fun h9 => absurd (show nI 1 = nI 0 from he21.symm.trans h9) (by decide))⟩, hO⟩ [0, 1] rfl rfl rfl (by omega) (by omega) dM_hash_30
      · refine lv_iload_n hx hb dM_hash_18 rfl (lv_at hl 2 rfl) ?_
        refine lv_sipush (v := nI 8192) hx hb dM_hash_19 (by decide) ?_
        refine lv_icmp_le (tgt := 31) hx hb dM_hash_22 (by decide) (fun h24 => ?_) (fun h24 => ?_)
        · obtain ⟨z21, hz21, rfl⟩ := i32_le h23 (by omega) h24
          refine lv_aload_n hx hb dM_hash_31 rfl (lv_at hl 0 rfl) ?_
          refine va_get (D := g.1) (ci := 8) (C := "LatticeKeysModel") (T := T_M) (N := 14) hx hb hts (wg_ft i_M) hown hK hP 0 rfl rfl 11 (by decide) (hts _ (wg_t kw_1537)) (fun _ h9 => h9) rfl dM_hash_32 ?_
          refine lv_iload_n hx hb dM_hash_35 rfl (lv_at hl 1 rfl) ?_
          refine lv_iconst (v := nI 1) hx hb dM_hash_36 (by decide) ?_
          refine mi_ne (tgt := 45) hx hb dM_hash_37 (by decide) (by omega) (by omega) (fun h25 => ?_) (fun h25 => absurd h25 (by omega))
          refine lv_iload_n hx hb dM_hash_45 rfl (lv_at hl 1 rfl) ?_
          refine lv_iconst (v := nI 2) hx hb dM_hash_46 (by decide) ?_
          refine mi_ne (tgt := 56) hx hb dM_hash_47 (by decide) (by omega) (by omega) (fun h26 => ?_) (fun h26 => absurd h26 (by omega))
          refine lv_sipush (v := nI 136) hx hb dM_hash_56 (by decide) ?_
          refine lv_iload_n hx hb dM_hash_59 rfl (lv_at hl 1 rfl) ?_
          refine lv_iconst (v := nI 2) hx hb dM_hash_60 (by decide) ?_
          refine mi_ge (tgt := 69) hx hb dM_hash_61 (by decide) (by omega) (by omega) (fun h27 => absurd h27 (by omega)) (fun h27 => ?_)
          refine lv_bipush (v := nI 6) hx hb dM_hash_64 (by decide) ?_
          refine lv_goto (tgt := 71) hx hb dM_hash_66 (by decide) ?_
          obtain ⟨e21, pl, hP, hD, hk21, hO⟩ := open1 hP hD hO k_msp (nxg clo_nil k_msp rfl)
          obtain ⟨am21, am22, am23, am24, am25, rt21, ps21, x21, rfl, km21, km22, km23, km24, km25, hr21, hr22, hr23⟩ := hk21
          obtain ⟨e22, pl, hP, hD, hk22, hO⟩ := open1 hP hD hO km21 (nmc (knd_ne km21 k_msp (by decide)) (nxg clo_nil km21 rfl))
          obtain ⟨f21, rfl⟩ := hk22
          obtain ⟨e23, pl, hP, hD, hk23, hO⟩ := open1 hP hD hO km22 (nmc (knd_ne km22 km21 (by decide)) (nmc (knd_ne km22 k_msp (by decide)) (nxg clo_nil km22 rfl)))
          obtain ⟨f22, rfl⟩ := hk23
          obtain ⟨e24, pl, hP, hD, hk24, hO⟩ := open1 hP hD hO km23 (nmc (knd_ne km23 km22 (by decide)) (nmc (knd_ne km23 km21 (by decide)) (nmc (knd_ne km23 k_msp (by decide)) (nxg clo_nil km23 rfl))))
          obtain ⟨f23, rfl⟩ := hk24
          obtain ⟨e25, pl, hP, hD, hk25, hO⟩ := open1 hP hD hO km24 (nmc (knd_ne km24 km23 (by decide)) (nmc (knd_ne km24 km22 (by decide)) (nmc (knd_ne km24 km21 (by decide)) (nmc (knd_ne km24 k_msp (by decide)) (nxg clo_nil km24 rfl)))))
          obtain ⟨f24, rfl⟩ := hk25
          obtain ⟨e26, pl, hP, hD, hk26, hO⟩ := open1 hP hD hO km25 (nmc (knd_ne km25 km24 (by decide)) (nmc (knd_ne km25 km23 (by decide)) (nmc (knd_ne km25 km22 (by decide)) (nmc (knd_ne km25 km21 (by decide)) (nmc (knd_ne km25 k_msp (by decide)) (nxg clo_nil km25 rfl))))))
          obtain ⟨f25, rfl⟩ := hk26
          have hP : va_P g.1 vcl ([(h0, .inr (8, [.int (nI 0), .int (nI tp), .int (nI rs), .int (nI ks), .ref mt, .ref mr_, .ref mk, .ref mo, .ref mh, .ref mse, .ref mhs, .ref msp, .ref msc, .ref mha])), (mse, .inl (g.2.1 0, 8, .inl fS)), (msp, .inr (9, [.ref am21, .ref am22, .ref am23, .ref am24, .ref am25, .int (nI rt21), .int (nI ps21), .int x21])), (am21, .inl (g.2.1 2, 25, .inr (.inl f21))), (am22, .inl (g.2.1 2, 25, .inr (.inl f22))), (am23, .inl (g.2.1 2, 5, .inr (.inl f23))), (am24, .inl (g.2.1 2, 24, .inr (.inl f24))), (am25, .inl (g.2.1 0, 25, .inl f25))] ++ pl) _ := hP
          have hD : va_D _ ([(h0, .inr (8, [.int (nI 0), .int (nI tp), .int (nI rs), .int (nI ks), .ref mt, .ref mr_, .ref mk, .ref mo, .ref mh, .ref mse, .ref mhs, .ref msp, .ref msc, .ref mha])), (mse, .inl (g.2.1 0, 8, .inl fS)), (msp, .inr (9, [.ref am21, .ref am22, .ref am23, .ref am24, .ref am25, .int (nI rt21), .int (nI ps21), .int x21])), (am21, .inl (g.2.1 2, 25, .inr (.inl f21))), (am22, .inl (g.2.1 2, 25, .inr (.inl f22))), (am23, .inl (g.2.1 2, 5, .inr (.inl f23))), (am24, .inl (g.2.1 2, 24, .inr (.inl f24))), (am25, .inl (g.2.1 0, 25, .inl f25))] ++ pl) := hD
          refine mp_v (cx := [(msp, .inr (9, [.ref am21, .ref am22, .ref am23, .ref am24, .ref am25, .int (nI rt21), .int (nI ps21), .int x21])), (am21, .inl (g.2.1 2, 25, .inr (.inl f21))), (am22, .inl (g.2.1 2, 25, .inr (.inl f22))), (am23, .inl (g.2.1 2, 5, .inr (.inl f23))), (am24, .inl (g.2.1 2, 24, .inr (.inl f24))), (am25, .inl (g.2.1 0, 25, .inl f25))]) (wr := [(h0, .inr (8, [.int (nI 0), .int (nI tp), .int (nI rs), .int (nI ks), .ref mt, .ref mr_, .ref mk, .ref mo, .ref mh, .ref mse, .ref mhs, .ref msp, .ref msc, .ref mha])), (mse, .inl (g.2.1 0, 8, .inl fS))]) hP hD hS hA [2, 3, 4, 5, 6, 7] [0, 1] rfl rfl rfl (by decide) (va_runV (As := [.int (nI 136), .int (nI 6)]) (rest := []) F (t_MS_begin l g _ T (am25 :: (am24 :: (am23 :: (am22 :: (am21 :: (msp :: [])))))) pl hO hU  136 (nI 6) msp am21 am22 am23 am24 am25 rt21 ps21 x21 f21 f22 f23 f24 f25 (by omega)) (cwV 2 hts (wg_app (wg_c kw_1938 (wg_c kw_1608 (wg_c kw_1609 (wg_c kw_10 wg_n)))) kw_1610) rfl rfl rfl (by decide +kernel) ⟨by decide, by decide⟩) (pp_V (en_ok g) (q0 := 2) hK hP hD hS hA hE [2, 3, 4, 5, 6, 7] rfl rfl rfl rfl) rfl rfl hl.1 rfl (lv_room (Nat.le_of_ble_eq_true rfl)) dM_hash_71 ⟨by omega, by omega⟩) (fun  u23 H locs hu22 hP hD hS => ?_)
          obtain ⟨u24, pl⟩ := u23
          obtain ⟨hq22, hO⟩ := hu22
          obtain ⟨ps22, f26, f27, f28⟩ := u24
          have hP : va_P g.1 vcl ([(h0, .inr (8, [.int (nI 0), .int (nI tp), .int (nI rs), .int (nI ks), .ref mt, .ref mr_, .ref mk, .ref mo, .ref mh, .ref mse, .ref mhs, .ref msp, .ref msc, .ref mha])), (mse, .inl (g.2.1 0, 8, .inl fS)), (msp, .inr (9, [.ref am21, .ref am22, .ref am23, .ref am24, .ref am25, .int (nI 136), .int (nI ps22), .int (nI 6)])), (am21, .inl (g.2.1 2, 25, .inr (.inl f26))), (am22, .inl (g.2.1 2, 25, .inr (.inl f27))), (am23, .inl (g.2.1 2, 5, .inr (.inl f28))), (am24, .inl (g.2.1 2, 24, .inr (.inl f24))), (am25, .inl (g.2.1 0, 25, .inl f25))] ++ pl) _ := hP
          have hD : va_D _ ([(h0, .inr (8, [.int (nI 0), .int (nI tp), .int (nI rs), .int (nI ks), .ref mt, .ref mr_, .ref mk, .ref mo, .ref mh, .ref mse, .ref mhs, .ref msp, .ref msc, .ref mha])), (mse, .inl (g.2.1 0, 8, .inl fS)), (msp, .inr (9, [.ref am21, .ref am22, .ref am23, .ref am24, .ref am25, .int (nI 136), .int (nI ps22), .int (nI 6)])), (am21, .inl (g.2.1 2, 25, .inr (.inl f26))), (am22, .inl (g.2.1 2, 25, .inr (.inl f27))), (am23, .inl (g.2.1 2, 5, .inr (.inl f28))), (am24, .inl (g.2.1 2, 24, .inr (.inl f24))), (am25, .inl (g.2.1 0, 25, .inl f25))] ++ pl) := hD
          have hq22 : ps22 ≤ 136 := hq22
          refine W.widen (k := 0) (n := 0) (by omega) (by omega) ?_
          refine lv_aload_n hx hb dM_hash_74 rfl (lv_at hl 0 rfl) ?_
          refine va_get (D := g.1) (ci := 8) (C := "LatticeKeysModel") (T := T_M) (N := 14) hx hb hts (wg_ft i_M) hown hK hP 0 rfl rfl 11 (by decide) (hts _ (wg_t kw_1537)) (fun _ h9 => h9) rfl dM_hash_75 ?_
          refine lv_aload_n hx hb dM_hash_78 rfl (lv_at hl 0 rfl) ?_
          refine va_get (D := g.1) (ci := 8) (C := "LatticeKeysModel") (T := T_M) (N := 14) hx hb hts (wg_ft i_M) hown hK hP 0 rfl rfl 4 (by decide) (hts _ (wg_t kw_1530)) (fun _ h9 => h9) rfl dM_hash_79 ?_
          refine lv_iconst (v := nI 0) hx hb dM_hash_82 (by decide) ?_
          refine lv_aload_n hx hb dM_hash_83 rfl (lv_at hl 0 rfl) ?_
          refine va_get (D := g.1) (ci := 8) (C := "LatticeKeysModel") (T := T_M) (N := 14) hx hb hts (wg_ft i_M) hown hK hP 0 rfl rfl 1 (by decide) (hts _ (wg_t kw_1527)) (fun _ h9 => h9) rfl dM_hash_84 ?_
          refine mp_v (cx := [(msp, .inr (9, [.ref am21, .ref am22, .ref am23, .ref am24, .ref am25, .int (nI 136), .int (nI ps22), .int (nI 6)])), (am21, .inl (g.2.1 2, 25, .inr (.inl f26))), (am22, .inl (g.2.1 2, 25, .inr (.inl f27))), (am23, .inl (g.2.1 2, 5, .inr (.inl f28))), (am24, .inl (g.2.1 2, 24, .inr (.inl f24))), (am25, .inl (g.2.1 0, 25, .inl f25))]) (wr := [(h0, .inr (8, [.int (nI 0), .int (nI tp), .int (nI rs), .int (nI ks), .ref mt, .ref mr_, .ref mk, .ref mo, .ref mh, .ref mse, .ref mhs, .ref msp, .ref msc, .ref mha])), (mse, .inl (g.2.1 0, 8, .inl fS))]) hP hD hS hA [2, 3, 4, 5, 6, 7] [0, 1] rfl rfl rfl (by decide) (va_runV (As := [.ref mt, .int (nI 0), .int (nI tp)]) (rest := []) F (t_MS_puts l g _ T (am25 :: (am24 :: (am23 :: (am22 :: (am21 :: (msp :: [])))))) pl hO hU (clo_cons (clo_cons (clo_cons (clo_cons (clo_cons (clo_cons clo_nil k_msp (by decide)) km21 (by decide)) km22 (by decide)) km23 (by decide)) km24 (by decide)) km25 (by decide)) mt 16384 0 tp msp am21 am22 am23 am24 am25 136 ps22 (nI 6) f26 f27 f28 f24 f25 k_mt (by omega) (by omega) (by omega) (by omega)) (cwV 3 hts (wg_app (wg_c kw_1939 (wg_c kw_1612 (wg_c kw_1613 (wg_c kw_10 wg_n)))) kw_1614) rfl rfl rfl (by decide +kernel) ⟨by decide, by decide⟩) (pp_V (en_ok g) (q0 := 2) hK hP hD hS hA hE [2, 3, 4, 5, 6, 7] rfl rfl rfl rfl) rfl rfl hl.1 rfl (lv_room (Nat.le_of_ble_eq_true rfl)) dM_hash_87 ⟨by omega, by omega⟩) (fun  u25 H locs hu23 hP hD hS => ?_)
          obtain ⟨u26, pl⟩ := u25
          obtain ⟨hq23, hO⟩ := hu23
          obtain ⟨ps23, f29, f30, f31⟩ := u26
          have hP : va_P g.1 vcl ([(h0, .inr (8, [.int (nI 0), .int (nI tp), .int (nI rs), .int (nI ks), .ref mt, .ref mr_, .ref mk, .ref mo, .ref mh, .ref mse, .ref mhs, .ref msp, .ref msc, .ref mha])), (mse, .inl (g.2.1 0, 8, .inl fS)), (msp, .inr (9, [.ref am21, .ref am22, .ref am23, .ref am24, .ref am25, .int (nI 136), .int (nI ps23), .int (nI 6)])), (am21, .inl (g.2.1 2, 25, .inr (.inl f29))), (am22, .inl (g.2.1 2, 25, .inr (.inl f30))), (am23, .inl (g.2.1 2, 5, .inr (.inl f31))), (am24, .inl (g.2.1 2, 24, .inr (.inl f24))), (am25, .inl (g.2.1 0, 25, .inl f25))] ++ pl) _ := hP
          have hD : va_D _ ([(h0, .inr (8, [.int (nI 0), .int (nI tp), .int (nI rs), .int (nI ks), .ref mt, .ref mr_, .ref mk, .ref mo, .ref mh, .ref mse, .ref mhs, .ref msp, .ref msc, .ref mha])), (mse, .inl (g.2.1 0, 8, .inl fS)), (msp, .inr (9, [.ref am21, .ref am22, .ref am23, .ref am24, .ref am25, .int (nI 136), .int (nI ps23), .int (nI 6)])), (am21, .inl (g.2.1 2, 25, .inr (.inl f29))), (am22, .inl (g.2.1 2, 25, .inr (.inl f30))), (am23, .inl (g.2.1 2, 5, .inr (.inl f31))), (am24, .inl (g.2.1 2, 24, .inr (.inl f24))), (am25, .inl (g.2.1 0, 25, .inl f25))] ++ pl) := hD
          have hq23 : ps23 ≤ 136 := hq23
          refine W.widen (k := 0) (n := 0) (by omega) (by omega) ?_
          refine lv_aload_n hx hb dM_hash_90 rfl (lv_at hl 0 rfl) ?_
          refine va_get (D := g.1) (ci := 8) (C := "LatticeKeysModel") (T := T_M) (N := 14) hx hb hts (wg_ft i_M) hown hK hP 0 rfl rfl 11 (by decide) (hts _ (wg_t kw_1537)) (fun _ h9 => h9) rfl dM_hash_91 ?_
          refine mp_v (cx := [(msp, .inr (9, [.ref am21, .ref am22, .ref am23, .ref am24, .ref am25, .int (nI 136), .int (nI ps23), .int (nI 6)])), (am21, .inl (g.2.1 2, 25, .inr (.inl f29))), (am22, .inl (g.2.1 2, 25, .inr (.inl f30))), (am23, .inl (g.2.1 2, 5, .inr (.inl f31))), (am24, .inl (g.2.1 2, 24, .inr (.inl f24))), (am25, .inl (g.2.1 0, 25, .inl f25))]) (wr := [(h0, .inr (8, [.int (nI 0), .int (nI tp), .int (nI rs), .int (nI ks), .ref mt, .ref mr_, .ref mk, .ref mo, .ref mh, .ref mse, .ref mhs, .ref msp, .ref msc, .ref mha])), (mse, .inl (g.2.1 0, 8, .inl fS))]) hP hD hS hA [2, 3, 4, 5, 6, 7] [0, 1] rfl rfl rfl (by decide) (va_runV (As := []) (rest := []) F (t_MS_end l g _ T (am25 :: (am24 :: (am23 :: (am22 :: (am21 :: (msp :: [])))))) pl hO hU  msp am21 am22 am23 am24 am25 136 ps23 (nI 6) f29 f30 f31 f24 f25 (by omega) (by omega)) (cwV 0 hts (wg_app (wg_c kw_1940 (wg_c kw_1634 (wg_c kw_1635 (wg_c kw_10 wg_n)))) kw_1636) rfl rfl rfl (by decide +kernel) ⟨by decide, by decide⟩) (pp_V (en_ok g) (q0 := 2) hK hP hD hS hA hE [2, 3, 4, 5, 6, 7] rfl rfl rfl rfl) rfl rfl hl.1 rfl (lv_room (Nat.le_of_ble_eq_true rfl)) dM_hash_94 ⟨by omega, by omega⟩) (fun  u27 H locs hu24 hP hD hS => ?_)
          obtain ⟨u28, pl⟩ := u27
          obtain ⟨hq24, hO⟩ := hu24
          obtain ⟨ps24, f32, f33, f34⟩ := u28
          have hP : va_P g.1 vcl ([(h0, .inr (8, [.int (nI 0), .int (nI tp), .int (nI rs), .int (nI ks), .ref mt, .ref mr_, .ref mk, .ref mo, .ref mh, .ref mse, .ref mhs, .ref msp, .ref msc, .ref mha])), (mse, .inl (g.2.1 0, 8, .inl fS)), (msp, .inr (9, [.ref am21, .ref am22, .ref am23, .ref am24, .ref am25, .int (nI 136), .int (nI ps24), .int (nI 6)])), (am21, .inl (g.2.1 2, 25, .inr (.inl f32))), (am22, .inl (g.2.1 2, 25, .inr (.inl f33))), (am23, .inl (g.2.1 2, 5, .inr (.inl f34))), (am24, .inl (g.2.1 2, 24, .inr (.inl f24))), (am25, .inl (g.2.1 0, 25, .inl f25))] ++ pl) _ := hP
          have hD : va_D _ ([(h0, .inr (8, [.int (nI 0), .int (nI tp), .int (nI rs), .int (nI ks), .ref mt, .ref mr_, .ref mk, .ref mo, .ref mh, .ref mse, .ref mhs, .ref msp, .ref msc, .ref mha])), (mse, .inl (g.2.1 0, 8, .inl fS)), (msp, .inr (9, [.ref am21, .ref am22, .ref am23, .ref am24, .ref am25, .int (nI 136), .int (nI ps24), .int (nI 6)])), (am21, .inl (g.2.1 2, 25, .inr (.inl f32))), (am22, .inl (g.2.1 2, 25, .inr (.inl f33))), (am23, .inl (g.2.1 2, 5, .inr (.inl f34))), (am24, .inl (g.2.1 2, 24, .inr (.inl f24))), (am25, .inl (g.2.1 0, 25, .inl f25))] ++ pl) := hD
          have hq24 : ps24 ≤ 136 := hq24
          refine W.widen (k := 0) (n := 0) (by omega) (by omega) ?_
          refine lv_aload_n hx hb dM_hash_97 rfl (lv_at hl 0 rfl) ?_
          refine lv_iload_n hx hb dM_hash_98 rfl (lv_at hl 1 rfl) ?_
          refine lv_if_ne (tgt := 107) hx hb dM_hash_99 (by decide) (fun h28 => absurd h28 (by decide)) (fun h28 => ?_)
          refine lv_bipush (v := nI 32) hx hb dM_hash_102 (by decide) ?_
          refine lv_goto (tgt := 118) hx hb dM_hash_104 (by decide) ?_
          refine va_put (D := g.1) (ci := 8) (v := .int (nI 32)) (ty := .int) (C := "LatticeKeysModel") (T := T_M) (N := 14) hx hb hts (wg_ft i_M) ty_M k_M n_M hown hK hP hD hS 0 rfl rfl 2 (by decide) (hts _ (wg_t kw_1528)) (fun _ h9 => h9) rfl (by decide +kernel) rfl rfl (Nat.le_of_ble_eq_true rfl) dM_hash_118 (fun H locs hP hD hS => ?_)
          have hP : va_P g.1 vcl ([(h0, .inr (8, [.int (nI 0), .int (nI tp), .int (nI 32), .int (nI ks), .ref mt, .ref mr_, .ref mk, .ref mo, .ref mh, .ref mse, .ref mhs, .ref msp, .ref msc, .ref mha])), (mse, .inl (g.2.1 0, 8, .inl fS)), (msp, .inr (9, [.ref am21, .ref am22, .ref am23, .ref am24, .ref am25, .int (nI 136), .int (nI ps24), .int (nI 6)])), (am21, .inl (g.2.1 2, 25, .inr (.inl f32))), (am22, .inl (g.2.1 2, 25, .inr (.inl f33))), (am23, .inl (g.2.1 2, 5, .inr (.inl f34))), (am24, .inl (g.2.1 2, 24, .inr (.inl f24))), (am25, .inl (g.2.1 0, 25, .inl f25))] ++ pl) _ := hP
          have hD : va_D _ ([(h0, .inr (8, [.int (nI 0), .int (nI tp), .int (nI 32), .int (nI ks), .ref mt, .ref mr_, .ref mk, .ref mo, .ref mh, .ref mse, .ref mhs, .ref msp, .ref msc, .ref mha])), (mse, .inl (g.2.1 0, 8, .inl fS)), (msp, .inr (9, [.ref am21, .ref am22, .ref am23, .ref am24, .ref am25, .int (nI 136), .int (nI ps24), .int (nI 6)])), (am21, .inl (g.2.1 2, 25, .inr (.inl f32))), (am22, .inl (g.2.1 2, 25, .inr (.inl f33))), (am23, .inl (g.2.1 2, 5, .inr (.inl f34))), (am24, .inl (g.2.1 2, 24, .inr (.inl f24))), (am25, .inl (g.2.1 0, 25, .inl f25))] ++ pl) := hD
          refine lv_aload_n hx hb dM_hash_121 rfl (lv_at hl 0 rfl) ?_
          refine va_get (D := g.1) (ci := 8) (C := "LatticeKeysModel") (T := T_M) (N := 14) hx hb hts (wg_ft i_M) hown hK hP 0 rfl rfl 11 (by decide) (hts _ (wg_t kw_1537)) (fun _ h9 => h9) rfl dM_hash_122 ?_
          refine lv_aload_n hx hb dM_hash_125 rfl (lv_at hl 0 rfl) ?_
          refine va_get (D := g.1) (ci := 8) (C := "LatticeKeysModel") (T := T_M) (N := 14) hx hb hts (wg_ft i_M) hown hK hP 0 rfl rfl 5 (by decide) (hts _ (wg_t kw_1531)) (fun _ h9 => h9) rfl dM_hash_126 ?_
          refine lv_iconst (v := nI 0) hx hb dM_hash_129 (by decide) ?_
          refine lv_aload_n hx hb dM_hash_130 rfl (lv_at hl 0 rfl) ?_
          refine va_get (D := g.1) (ci := 8) (C := "LatticeKeysModel") (T := T_M) (N := 14) hx hb hts (wg_ft i_M) hown hK hP 0 rfl rfl 2 (by decide) (hts _ (wg_t kw_1528)) (fun _ h9 => h9) rfl dM_hash_131 ?_
          refine mp_v (cx := [(msp, .inr (9, [.ref am21, .ref am22, .ref am23, .ref am24, .ref am25, .int (nI 136), .int (nI ps24), .int (nI 6)])), (am21, .inl (g.2.1 2, 25, .inr (.inl f32))), (am22, .inl (g.2.1 2, 25, .inr (.inl f33))), (am23, .inl (g.2.1 2, 5, .inr (.inl f34))), (am24, .inl (g.2.1 2, 24, .inr (.inl f24))), (am25, .inl (g.2.1 0, 25, .inl f25))]) (wr := [(h0, .inr (8, [.int (nI 0), .int (nI tp), .int (nI 32), .int (nI ks), .ref mt, .ref mr_, .ref mk, .ref mo, .ref mh, .ref mse, .ref mhs, .ref msp, .ref msc, .ref mha])), (mse, .inl (g.2.1 0, 8, .inl fS))]) hP hD hS hA [2, 3, 4, 5, 6, 7] [0, 1] rfl rfl rfl (by decide) (va_runV (As := [.ref mr_, .int (nI 0), .int (nI 32)]) (rest := []) F (t_MS_take l g _ T (am25 :: (am24 :: (am23 :: (am22 :: (am21 :: (msp :: [])))))) pl hO hU (clo_cons (clo_cons (clo_cons (clo_cons (clo_cons (clo_cons clo_nil k_msp (by decide)) km21 (by decide)) km22 (by decide)) km23 (by decide)) km24 (by decide)) km25 (by decide)) mr_ 8192 0 32 msp am21 am22 am23 am24 am25 136 ps24 (nI 6) f32 f33 f34 f24 f25 k_mr_ (by omega) (by omega) (by omega) (by omega)) (cwV 3 hts (wg_app (wg_c kw_1941 (wg_c kw_1638 (wg_c kw_1639 (wg_c kw_10 wg_n)))) kw_1640) rfl rfl rfl (by decide +kernel) ⟨by decide, by decide⟩) (pp_V (en_ok g) (q0 := 2) hK hP hD hS hA hE [2, 3, 4, 5, 6, 7] rfl rfl rfl rfl) rfl rfl hl.1 rfl (lv_room (Nat.le_of_ble_eq_true rfl)) dM_hash_134 ⟨by omega, by omega⟩) (fun  u29 H locs hu25 hP hD hS => ?_)
          obtain ⟨u30, pl⟩ := u29
          obtain ⟨hq25, hO⟩ := hu25
          obtain ⟨ps25, f35, f36, f37⟩ := u30
          have hP : va_P g.1 vcl ([(h0, .inr (8, [.int (nI 0), .int (nI tp), .int (nI 32), .int (nI ks), .ref mt, .ref mr_, .ref mk, .ref mo, .ref mh, .ref mse, .ref mhs, .ref msp, .ref msc, .ref mha])), (mse, .inl (g.2.1 0, 8, .inl fS)), (msp, .inr (9, [.ref am21, .ref am22, .ref am23, .ref am24, .ref am25, .int (nI 136), .int (nI ps25), .int (nI 6)])), (am21, .inl (g.2.1 2, 25, .inr (.inl f35))), (am22, .inl (g.2.1 2, 25, .inr (.inl f36))), (am23, .inl (g.2.1 2, 5, .inr (.inl f37))), (am24, .inl (g.2.1 2, 24, .inr (.inl f24))), (am25, .inl (g.2.1 0, 25, .inl f25))] ++ pl) _ := hP
          have hD : va_D _ ([(h0, .inr (8, [.int (nI 0), .int (nI tp), .int (nI 32), .int (nI ks), .ref mt, .ref mr_, .ref mk, .ref mo, .ref mh, .ref mse, .ref mhs, .ref msp, .ref msc, .ref mha])), (mse, .inl (g.2.1 0, 8, .inl fS)), (msp, .inr (9, [.ref am21, .ref am22, .ref am23, .ref am24, .ref am25, .int (nI 136), .int (nI ps25), .int (nI 6)])), (am21, .inl (g.2.1 2, 25, .inr (.inl f35))), (am22, .inl (g.2.1 2, 25, .inr (.inl f36))), (am23, .inl (g.2.1 2, 5, .inr (.inl f37))), (am24, .inl (g.2.1 2, 24, .inr (.inl f24))), (am25, .inl (g.2.1 0, 25, .inl f25))] ++ pl) := hD
          have hq25 : ps25 ≤ 136 := hq25
          refine W.widen (k := 0) (n := 0) (by omega) (by omega) ?_
          refine lv_aload_n hx hb dM_hash_137 rfl (lv_at hl 0 rfl) ?_
          refine lv_iconst (v := nI 0) hx hb dM_hash_138 (by decide) ?_
          refine va_put (D := g.1) (ci := 8) (v := .int (nI 0)) (ty := .int) (C := "LatticeKeysModel") (T := T_M) (N := 14) hx hb hts (wg_ft i_M) ty_M k_M n_M hown hK hP hD hS 0 rfl rfl 1 (by decide) (hts _ (wg_t kw_1527)) (fun _ h9 => h9) rfl (by decide +kernel) rfl rfl (Nat.le_of_ble_eq_true rfl) dM_hash_139 (fun H locs hP hD hS => ?_)
          have hP : va_P g.1 vcl ([(h0, .inr (8, [.int (nI 0), .int (nI 0), .int (nI 32), .int (nI ks), .ref mt, .ref mr_, .ref mk, .ref mo, .ref mh, .ref mse, .ref mhs, .ref msp, .ref msc, .ref mha])), (mse, .inl (g.2.1 0, 8, .inl fS)), (msp, .inr (9, [.ref am21, .ref am22, .ref am23, .ref am24, .ref am25, .int (nI 136), .int (nI ps25), .int (nI 6)])), (am21, .inl (g.2.1 2, 25, .inr (.inl f35))), (am22, .inl (g.2.1 2, 25, .inr (.inl f36))), (am23, .inl (g.2.1 2, 5, .inr (.inl f37))), (am24, .inl (g.2.1 2, 24, .inr (.inl f24))), (am25, .inl (g.2.1 0, 25, .inl f25))] ++ pl) _ := hP
          have hD : va_D _ ([(h0, .inr (8, [.int (nI 0), .int (nI 0), .int (nI 32), .int (nI ks), .ref mt, .ref mr_, .ref mk, .ref mo, .ref mh, .ref mse, .ref mhs, .ref msp, .ref msc, .ref mha])), (mse, .inl (g.2.1 0, 8, .inl fS)), (msp, .inr (9, [.ref am21, .ref am22, .ref am23, .ref am24, .ref am25, .int (nI 136), .int (nI ps25), .int (nI 6)])), (am21, .inl (g.2.1 2, 25, .inr (.inl f35))), (am22, .inl (g.2.1 2, 25, .inr (.inl f36))), (am23, .inl (g.2.1 2, 5, .inr (.inl f37))), (am24, .inl (g.2.1 2, 24, .inr (.inl f24))), (am25, .inl (g.2.1 0, 25, .inl f25))] ++ pl) := hD
          refine lv_aload_n hx hb dM_hash_142 rfl (lv_at hl 0 rfl) ?_
          refine va_get (D := g.1) (ci := 8) (C := "LatticeKeysModel") (T := T_M) (N := 14) hx hb hts (wg_ft i_M) hown hK hP 0 rfl rfl 2 (by decide) (hts _ (wg_t kw_1528)) (fun _ h9 => h9) rfl dM_hash_143 ?_
          have hO := close1 (e := .inl (g.2.1 0, 25, .inl f25)) hO km25 ⟨_, rfl⟩
          have hO := close1 (e := .inl (g.2.1 2, 24, .inr (.inl f24))) hO km24 ⟨_, rfl⟩
          have hO := close1 (e := .inl (g.2.1 2, 5, .inr (.inl f37))) hO km23 ⟨_, rfl⟩
          have hO := close1 (e := .inl (g.2.1 2, 25, .inr (.inl f36))) hO km22 ⟨_, rfl⟩
          have hO := close1 (e := .inl (g.2.1 2, 25, .inr (.inl f35))) hO km21 ⟨_, rfl⟩
          have hO := close1 (e := .inr (9, [.ref am21, .ref am22, .ref am23, .ref am24, .ref am25, .int (nI 136), .int (nI ps25), .int (nI 6)])) hO k_msp ⟨_, _, _, _, _, _, _, _, rfl, km21, km22, km23, km24, km25, by omega, by omega, by omega⟩
          have hO : okx g T [] ((msp, .inr (9, [.ref am21, .ref am22, .ref am23, .ref am24, .ref am25, .int (nI 136), .int (nI ps25), .int (nI 6)])) :: (am21, .inl (g.2.1 2, 25, .inr (.inl f35))) :: (am22, .inl (g.2.1 2, 25, .inr (.inl f36))) :: (am23, .inl (g.2.1 2, 5, .inr (.inl f37))) :: (am24, .inl (g.2.1 2, 24, .inr (.inl f24))) :: (am25, .inl (g.2.1 0, 25, .inl f25)) :: pl) := hO
          have hP : va_P g.1 vcl ([(h0, .inr (8, [.int (nI 0), .int (nI 0), .int (nI 32), .int (nI ks), .ref mt, .ref mr_, .ref mk, .ref mo, .ref mh, .ref mse, .ref mhs, .ref msp, .ref msc, .ref mha])), (mse, .inl (g.2.1 0, 8, .inl fS))] ++ ((msp, .inr (9, [.ref am21, .ref am22, .ref am23, .ref am24, .ref am25, .int (nI 136), .int (nI ps25), .int (nI 6)])) :: (am21, .inl (g.2.1 2, 25, .inr (.inl f35))) :: (am22, .inl (g.2.1 2, 25, .inr (.inl f36))) :: (am23, .inl (g.2.1 2, 5, .inr (.inl f37))) :: (am24, .inl (g.2.1 2, 24, .inr (.inl f24))) :: (am25, .inl (g.2.1 0, 25, .inl f25)) :: pl)) _ := hP
          have hD : va_D _ ([(h0, .inr (8, [.int (nI 0), .int (nI 0), .int (nI 32), .int (nI ks), .ref mt, .ref mr_, .ref mk, .ref mo, .ref mh, .ref mse, .ref mhs, .ref msp, .ref msc, .ref mha])), (mse, .inl (g.2.1 0, 8, .inl fS))] ++ ((msp, .inr (9, [.ref am21, .ref am22, .ref am23, .ref am24, .ref am25, .int (nI 136), .int (nI ps25), .int (nI 6)])) :: (am21, .inl (g.2.1 2, 25, .inr (.inl f35))) :: (am22, .inl (g.2.1 2, 25, .inr (.inl f36))) :: (am23, .inl (g.2.1 2, 5, .inr (.inl f37))) :: (am24, .inl (g.2.1 2, 24, .inr (.inl f24))) :: (am25, .inl (g.2.1 0, 25, .inl f25)) :: pl)) := hD
          generalize ((msp, .inr (9, [.ref am21, .ref am22, .ref am23, .ref am24, .ref am25, .int (nI 136), .int (nI ps25), .int (nI 6)])) :: (am21, .inl (g.2.1 2, 25, .inr (.inl f35))) :: (am22, .inl (g.2.1 2, 25, .inr (.inl f36))) :: (am23, .inl (g.2.1 2, 5, .inr (.inl f37))) :: (am24, .inl (g.2.1 2, 24, .inr (.inl f24))) :: (am25, .inl (g.2.1 0, 25, .inl f25)) :: pl) = pl at hO hP hD
          exact mp_iret hx hb hr hlk hP hD hS ((nI 0, 0, 32, ks, fS), pl) ⟨⟨(by show 0 ≤ 16384; omega), (by show 32 ≤ 8192; omega), (by show ks ≤ 8; omega), hS5, (by rw [hv0 (by omega)]), (fun _ => by rw [hv0 (by omega)])⟩, hO⟩ [0, 1] rfl rfl rfl (by omega) (by omega) dM_hash_146
        · refine lv_aload_n hx hb dM_hash_25 rfl (lv_at hl 0 rfl) ?_
          refine lv_iconst (v := nI 1) hx hb dM_hash_26 (by decide) ?_
          refine mp_i (cx := [(h0, .inr (8, [.int (nI 0), .int (nI tp), .int (nI rs), .int (nI ks), .ref mt, .ref mr_, .ref mk, .ref mo, .ref mh, .ref mse, .ref mhs, .ref msp, .ref msc, .ref mha])), (mse, .inl (g.2.1 0, 8, .inl fS))]) (wr := []) hP hD hS hA [0, 1] [] rfl rfl rfl (by decide) (va_runV (As := [.int (nI 1)]) (rest := []) F (t_M_fail l g _ T  pl hO hU  (nI 1) h0 mt mr_ mk mo mh mse mhs msp msc mha tp rs ks (nI 0) fS k_mt k_mr_ k_mk k_mo k_mh k_mhs k_msp k_msc k_mha (by omega) hS5) (cwV 1 hts (wg_app (wg_c kw_1577 (wg_c kw_1579 (wg_c ks_50 (wg_c kw_9 wg_n)))) kw_1580) rfl rfl rfl (by decide +kernel) ⟨by decide, by decide⟩) (pp_V (en_ok g) (q0 := 0) hK hP hD hS hA hE [0, 1] rfl rfl rfl rfl) rfl rfl hl.1 rfl (lv_room (Nat.le_of_ble_eq_true rfl)) dM_hash_27 ⟨by omega, by omega⟩) (fun r22 u31 H locs hu26 hP hD hS => ?_)
          obtain ⟨u32, pl⟩ := u31
          obtain ⟨hq26, hO⟩ := hu26
          obtain ⟨th22, tp22, rs22, ks22, fS22⟩ := u32
          have hP : va_P g.1 vcl ([(h0, .inr (8, [.int th22, .int (nI tp22), .int (nI rs22), .int (nI ks22), .ref mt, .ref mr_, .ref mk, .ref mo, .ref mh, .ref mse, .ref mhs, .ref msp, .ref msc, .ref mha])), (mse, .inl (g.2.1 0, 8, .inl fS22))] ++ pl) _ := hP
          have hD : va_D _ ([(h0, .inr (8, [.int th22, .int (nI tp22), .int (nI rs22), .int (nI ks22), .ref mt, .ref mr_, .ref mk, .ref mo, .ref mh, .ref mse, .ref mhs, .ref msp, .ref msc, .ref mha])), (mse, .inl (g.2.1 0, 8, .inl fS22))] ++ pl) := hD
          obtain ⟨-, -, -, hm29, hm30⟩ := hq26
          obtain ⟨he26, he27, he28, he29, he30⟩ := hm30
          have he26 : th22 = nI 1 := he26
          have he27 : tp22 = tp := he27
          have he28 : rs22 = rs := he28
          have he29 : ks22 = ks := he29
          obtain rfl := he30
          refine W.widen (k := 0) (n := 0) (by omega) (by omega) ?_
          exact mp_iret hx hb hr hlk hP hD hS ((th22, tp22, rs22, ks22, fS22), pl) ⟨⟨(by show tp22 ≤ 16384; omega), (by show rs22 ≤ 8192; omega), (by show ks22 ≤ 8; omega), hm29, (by rw [hval_bad (Or.inr (Or.inr (Or.inr (Int32.not_le.mp h24))))]; exact he26), (fun h9 => absurd (show nI 1 = nI 0 from he26.symm.trans h9) (by decide))⟩, hO⟩ [0, 1] rfl rfl rfl (by omega) (by omega) dM_hash_30
    | 1, _ =>
      refine lv_iload_n hx hb dM_hash_5 rfl (lv_at hl 1 rfl) ?_
      refine lv_if_lt (tgt := 25) hx hb dM_hash_6 (by decide) (fun h29 => absurd h29 (by decide)) (fun h29 => ?_)
      refine lv_iload_n hx hb dM_hash_9 rfl (lv_at hl 1 rfl) ?_
      refine lv_iconst (v := nI 3) hx hb dM_hash_10 (by decide) ?_
      refine mi_gt (tgt := 25) hx hb dM_hash_11 (by decide) (by omega) (by omega) (fun h30 => absurd h30 (by omega)) (fun h30 => ?_)
      refine lv_iload_n hx hb dM_hash_14 rfl (lv_at hl 2 rfl) ?_
      refine lv_if_lt (tgt := 25) hx hb dM_hash_15 (by decide) (fun h31 => ?_) (fun h31 => ?_)
      · refine lv_aload_n hx hb dM_hash_25 rfl (lv_at hl 0 rfl) ?_
        refine lv_iconst (v := nI 1) hx hb dM_hash_26 (by decide) ?_
        refine mp_i (cx := [(h0, .inr (8, [.int (nI 0), .int (nI tp), .int (nI rs), .int (nI ks), .ref mt, .ref mr_, .ref mk, .ref mo, .ref mh, .ref mse, .ref mhs, .ref msp, .ref msc, .ref mha])), (mse, .inl (g.2.1 0, 8, .inl fS))]) (wr := []) hP hD hS hA [0, 1] [] rfl rfl rfl (by decide) (va_runV (As := [.int (nI 1)]) (rest := []) F (t_M_fail l g _ T  pl hO hU  (nI 1) h0 mt mr_ mk mo mh mse mhs msp msc mha tp rs ks (nI 0) fS k_mt k_mr_ k_mk k_mo k_mh k_mhs k_msp k_msc k_mha (by omega) hS5) (cwV 1 hts (wg_app (wg_c kw_1577 (wg_c kw_1579 (wg_c ks_50 (wg_c kw_9 wg_n)))) kw_1580) rfl rfl rfl (by decide +kernel) ⟨by decide, by decide⟩) (pp_V (en_ok g) (q0 := 0) hK hP hD hS hA hE [0, 1] rfl rfl rfl rfl) rfl rfl hl.1 rfl (lv_room (Nat.le_of_ble_eq_true rfl)) dM_hash_27 ⟨by omega, by omega⟩) (fun r23 u33 H locs hu27 hP hD hS => ?_)
        obtain ⟨u34, pl⟩ := u33
        obtain ⟨hq27, hO⟩ := hu27
        obtain ⟨th23, tp23, rs23, ks23, fS23⟩ := u34
        have hP : va_P g.1 vcl ([(h0, .inr (8, [.int th23, .int (nI tp23), .int (nI rs23), .int (nI ks23), .ref mt, .ref mr_, .ref mk, .ref mo, .ref mh, .ref mse, .ref mhs, .ref msp, .ref msc, .ref mha])), (mse, .inl (g.2.1 0, 8, .inl fS23))] ++ pl) _ := hP
        have hD : va_D _ ([(h0, .inr (8, [.int th23, .int (nI tp23), .int (nI rs23), .int (nI ks23), .ref mt, .ref mr_, .ref mk, .ref mo, .ref mh, .ref mse, .ref mhs, .ref msp, .ref msc, .ref mha])), (mse, .inl (g.2.1 0, 8, .inl fS23))] ++ pl) := hD
        obtain ⟨-, -, -, hm34, hm35⟩ := hq27
        obtain ⟨he31, he32, he33, he34, he35⟩ := hm35
        have he31 : th23 = nI 1 := he31
        have he32 : tp23 = tp := he32
        have he33 : rs23 = rs := he33
        have he34 : ks23 = ks := he34
        obtain rfl := he35
        refine W.widen (k := 0) (n := 0) (by omega) (by omega) ?_
        exact mp_iret hx hb hr hlk hP hD hS ((th23, tp23, rs23, ks23, fS23), pl) ⟨⟨(by show tp23 ≤ 16384; omega), (by show rs23 ≤ 8192; omega), (by show ks23 ≤ 8; omega), hm34, (by rw [hval_bad (Or.inr (Or.inr (Or.inl h31)))]; exact he31), (fun h9 => absurd (show nI 1 = nI 0 from he31.symm.trans h9) (by decide))⟩, hO⟩ [0, 1] rfl rfl rfl (by omega) (by omega) dM_hash_30
      · refine lv_iload_n hx hb dM_hash_18 rfl (lv_at hl 2 rfl) ?_
        refine lv_sipush (v := nI 8192) hx hb dM_hash_19 (by decide) ?_
        refine lv_icmp_le (tgt := 31) hx hb dM_hash_22 (by decide) (fun h32 => ?_) (fun h32 => ?_)
        · obtain ⟨z22, hz22, rfl⟩ := i32_le h31 (by omega) h32
          refine lv_aload_n hx hb dM_hash_31 rfl (lv_at hl 0 rfl) ?_
          refine va_get (D := g.1) (ci := 8) (C := "LatticeKeysModel") (T := T_M) (N := 14) hx hb hts (wg_ft i_M) hown hK hP 0 rfl rfl 11 (by decide) (hts _ (wg_t kw_1537)) (fun _ h9 => h9) rfl dM_hash_32 ?_
          refine lv_iload_n hx hb dM_hash_35 rfl (lv_at hl 1 rfl) ?_
          refine lv_iconst (v := nI 1) hx hb dM_hash_36 (by decide) ?_
          refine mi_ne (tgt := 45) hx hb dM_hash_37 (by decide) (by omega) (by omega) (fun h33 => absurd h33 (by omega)) (fun h33 => ?_)
          refine lv_bipush (v := nI 72) hx hb dM_hash_40 (by decide) ?_
          refine lv_goto (tgt := 59) hx hb dM_hash_42 (by decide) ?_
          refine lv_iload_n hx hb dM_hash_59 rfl (lv_at hl 1 rfl) ?_
          refine lv_iconst (v := nI 2) hx hb dM_hash_60 (by decide) ?_
          refine mi_ge (tgt := 69) hx hb dM_hash_61 (by decide) (by omega) (by omega) (fun h34 => absurd h34 (by omega)) (fun h34 => ?_)
          refine lv_bipush (v := nI 6) hx hb dM_hash_64 (by decide) ?_
          refine lv_goto (tgt := 71) hx hb dM_hash_66 (by decide) ?_
          obtain ⟨e27, pl, hP, hD, hk27, hO⟩ := open1 hP hD hO k_msp (nxg clo_nil k_msp rfl)
          obtain ⟨am26, am27, am28, am29, am30, rt22, ps26, x22, rfl, km26, km27, km28, km29, km30, hr24, hr25, hr26⟩ := hk27
          obtain ⟨e28, pl, hP, hD, hk28, hO⟩ := open1 hP hD hO km26 (nmc (knd_ne km26 k_msp (by decide)) (nxg clo_nil km26 rfl))
          obtain ⟨f38, rfl⟩ := hk28
          obtain ⟨e29, pl, hP, hD, hk29, hO⟩ := open1 hP hD hO km27 (nmc (knd_ne km27 km26 (by decide)) (nmc (knd_ne km27 k_msp (by decide)) (nxg clo_nil km27 rfl)))
          obtain ⟨f39, rfl⟩ := hk29
          obtain ⟨e30, pl, hP, hD, hk30, hO⟩ := open1 hP hD hO km28 (nmc (knd_ne km28 km27 (by decide)) (nmc (knd_ne km28 km26 (by decide)) (nmc (knd_ne km28 k_msp (by decide)) (nxg clo_nil km28 rfl))))
          obtain ⟨f40, rfl⟩ := hk30
          obtain ⟨e31, pl, hP, hD, hk31, hO⟩ := open1 hP hD hO km29 (nmc (knd_ne km29 km28 (by decide)) (nmc (knd_ne km29 km27 (by decide)) (nmc (knd_ne km29 km26 (by decide)) (nmc (knd_ne km29 k_msp (by decide)) (nxg clo_nil km29 rfl)))))
          obtain ⟨f41, rfl⟩ := hk31
          obtain ⟨e32, pl, hP, hD, hk32, hO⟩ := open1 hP hD hO km30 (nmc (knd_ne km30 km29 (by decide)) (nmc (knd_ne km30 km28 (by decide)) (nmc (knd_ne km30 km27 (by decide)) (nmc (knd_ne km30 km26 (by decide)) (nmc (knd_ne km30 k_msp (by decide)) (nxg clo_nil km30 rfl))))))
          obtain ⟨f42, rfl⟩ := hk32
          have hP : va_P g.1 vcl ([(h0, .inr (8, [.int (nI 0), .int (nI tp), .int (nI rs), .int (nI ks), .ref mt, .ref mr_, .ref mk, .ref mo, .ref mh, .ref mse, .ref mhs, .ref msp, .ref msc, .ref mha])), (mse, .inl (g.2.1 0, 8, .inl fS)), (msp, .inr (9, [.ref am26, .ref am27, .ref am28, .ref am29, .ref am30, .int (nI rt22), .int (nI ps26), .int x22])), (am26, .inl (g.2.1 2, 25, .inr (.inl f38))), (am27, .inl (g.2.1 2, 25, .inr (.inl f39))), (am28, .inl (g.2.1 2, 5, .inr (.inl f40))), (am29, .inl (g.2.1 2, 24, .inr (.inl f41))), (am30, .inl (g.2.1 0, 25, .inl f42))] ++ pl) _ := hP
          have hD : va_D _ ([(h0, .inr (8, [.int (nI 0), .int (nI tp), .int (nI rs), .int (nI ks), .ref mt, .ref mr_, .ref mk, .ref mo, .ref mh, .ref mse, .ref mhs, .ref msp, .ref msc, .ref mha])), (mse, .inl (g.2.1 0, 8, .inl fS)), (msp, .inr (9, [.ref am26, .ref am27, .ref am28, .ref am29, .ref am30, .int (nI rt22), .int (nI ps26), .int x22])), (am26, .inl (g.2.1 2, 25, .inr (.inl f38))), (am27, .inl (g.2.1 2, 25, .inr (.inl f39))), (am28, .inl (g.2.1 2, 5, .inr (.inl f40))), (am29, .inl (g.2.1 2, 24, .inr (.inl f41))), (am30, .inl (g.2.1 0, 25, .inl f42))] ++ pl) := hD
          refine mp_v (cx := [(msp, .inr (9, [.ref am26, .ref am27, .ref am28, .ref am29, .ref am30, .int (nI rt22), .int (nI ps26), .int x22])), (am26, .inl (g.2.1 2, 25, .inr (.inl f38))), (am27, .inl (g.2.1 2, 25, .inr (.inl f39))), (am28, .inl (g.2.1 2, 5, .inr (.inl f40))), (am29, .inl (g.2.1 2, 24, .inr (.inl f41))), (am30, .inl (g.2.1 0, 25, .inl f42))]) (wr := [(h0, .inr (8, [.int (nI 0), .int (nI tp), .int (nI rs), .int (nI ks), .ref mt, .ref mr_, .ref mk, .ref mo, .ref mh, .ref mse, .ref mhs, .ref msp, .ref msc, .ref mha])), (mse, .inl (g.2.1 0, 8, .inl fS))]) hP hD hS hA [2, 3, 4, 5, 6, 7] [0, 1] rfl rfl rfl (by decide) (va_runV (As := [.int (nI 72), .int (nI 6)]) (rest := []) F (t_MS_begin l g _ T (am30 :: (am29 :: (am28 :: (am27 :: (am26 :: (msp :: [])))))) pl hO hU  72 (nI 6) msp am26 am27 am28 am29 am30 rt22 ps26 x22 f38 f39 f40 f41 f42 (by omega)) (cwV 2 hts (wg_app (wg_c kw_1938 (wg_c kw_1608 (wg_c kw_1609 (wg_c kw_10 wg_n)))) kw_1610) rfl rfl rfl (by decide +kernel) ⟨by decide, by decide⟩) (pp_V (en_ok g) (q0 := 2) hK hP hD hS hA hE [2, 3, 4, 5, 6, 7] rfl rfl rfl rfl) rfl rfl hl.1 rfl (lv_room (Nat.le_of_ble_eq_true rfl)) dM_hash_71 ⟨by omega, by omega⟩) (fun  u35 H locs hu28 hP hD hS => ?_)
          obtain ⟨u36, pl⟩ := u35
          obtain ⟨hq28, hO⟩ := hu28
          obtain ⟨ps27, f43, f44, f45⟩ := u36
          have hP : va_P g.1 vcl ([(h0, .inr (8, [.int (nI 0), .int (nI tp), .int (nI rs), .int (nI ks), .ref mt, .ref mr_, .ref mk, .ref mo, .ref mh, .ref mse, .ref mhs, .ref msp, .ref msc, .ref mha])), (mse, .inl (g.2.1 0, 8, .inl fS)), (msp, .inr (9, [.ref am26, .ref am27, .ref am28, .ref am29, .ref am30, .int (nI 72), .int (nI ps27), .int (nI 6)])), (am26, .inl (g.2.1 2, 25, .inr (.inl f43))), (am27, .inl (g.2.1 2, 25, .inr (.inl f44))), (am28, .inl (g.2.1 2, 5, .inr (.inl f45))), (am29, .inl (g.2.1 2, 24, .inr (.inl f41))), (am30, .inl (g.2.1 0, 25, .inl f42))] ++ pl) _ := hP
          have hD : va_D _ ([(h0, .inr (8, [.int (nI 0), .int (nI tp), .int (nI rs), .int (nI ks), .ref mt, .ref mr_, .ref mk, .ref mo, .ref mh, .ref mse, .ref mhs, .ref msp, .ref msc, .ref mha])), (mse, .inl (g.2.1 0, 8, .inl fS)), (msp, .inr (9, [.ref am26, .ref am27, .ref am28, .ref am29, .ref am30, .int (nI 72), .int (nI ps27), .int (nI 6)])), (am26, .inl (g.2.1 2, 25, .inr (.inl f43))), (am27, .inl (g.2.1 2, 25, .inr (.inl f44))), (am28, .inl (g.2.1 2, 5, .inr (.inl f45))), (am29, .inl (g.2.1 2, 24, .inr (.inl f41))), (am30, .inl (g.2.1 0, 25, .inl f42))] ++ pl) := hD
          have hq28 : ps27 ≤ 72 := hq28
          refine W.widen (k := 0) (n := 0) (by omega) (by omega) ?_
          refine lv_aload_n hx hb dM_hash_74 rfl (lv_at hl 0 rfl) ?_
          refine va_get (D := g.1) (ci := 8) (C := "LatticeKeysModel") (T := T_M) (N := 14) hx hb hts (wg_ft i_M) hown hK hP 0 rfl rfl 11 (by decide) (hts _ (wg_t kw_1537)) (fun _ h9 => h9) rfl dM_hash_75 ?_
          refine lv_aload_n hx hb dM_hash_78 rfl (lv_at hl 0 rfl) ?_
          refine va_get (D := g.1) (ci := 8) (C := "LatticeKeysModel") (T := T_M) (N := 14) hx hb hts (wg_ft i_M) hown hK hP 0 rfl rfl 4 (by decide) (hts _ (wg_t kw_1530)) (fun _ h9 => h9) rfl dM_hash_79 ?_
          refine lv_iconst (v := nI 0) hx hb dM_hash_82 (by decide) ?_
          refine lv_aload_n hx hb dM_hash_83 rfl (lv_at hl 0 rfl) ?_
          refine va_get (D := g.1) (ci := 8) (C := "LatticeKeysModel") (T := T_M) (N := 14) hx hb hts (wg_ft i_M) hown hK hP 0 rfl rfl 1 (by decide) (hts _ (wg_t kw_1527)) (fun _ h9 => h9) rfl dM_hash_84 ?_
          refine mp_v (cx := [(msp, .inr (9, [.ref am26, .ref am27, .ref am28, .ref am29, .ref am30, .int (nI 72), .int (nI ps27), .int (nI 6)])), (am26, .inl (g.2.1 2, 25, .inr (.inl f43))), (am27, .inl (g.2.1 2, 25, .inr (.inl f44))), (am28, .inl (g.2.1 2, 5, .inr (.inl f45))), (am29, .inl (g.2.1 2, 24, .inr (.inl f41))), (am30, .inl (g.2.1 0, 25, .inl f42))]) (wr := [(h0, .inr (8, [.int (nI 0), .int (nI tp), .int (nI rs), .int (nI ks), .ref mt, .ref mr_, .ref mk, .ref mo, .ref mh, .ref mse, .ref mhs, .ref msp, .ref msc, .ref mha])), (mse, .inl (g.2.1 0, 8, .inl fS))]) hP hD hS hA [2, 3, 4, 5, 6, 7] [0, 1] rfl rfl rfl (by decide) (va_runV (As := [.ref mt, .int (nI 0), .int (nI tp)]) (rest := []) F (t_MS_puts l g _ T (am30 :: (am29 :: (am28 :: (am27 :: (am26 :: (msp :: [])))))) pl hO hU (clo_cons (clo_cons (clo_cons (clo_cons (clo_cons (clo_cons clo_nil k_msp (by decide)) km26 (by decide)) km27 (by decide)) km28 (by decide)) km29 (by decide)) km30 (by decide)) mt 16384 0 tp msp am26 am27 am28 am29 am30 72 ps27 (nI 6) f43 f44 f45 f41 f42 k_mt (by omega) (by omega) (by omega) (by omega)) (cwV 3 hts (wg_app (wg_c kw_1939 (wg_c kw_1612 (wg_c kw_1613 (wg_c kw_10 wg_n)))) kw_1614) rfl rfl rfl (by decide +kernel) ⟨by decide, by decide⟩) (pp_V (en_ok g) (q0 := 2) hK hP hD hS hA hE [2, 3, 4, 5, 6, 7] rfl rfl rfl rfl) rfl rfl hl.1 rfl (lv_room (Nat.le_of_ble_eq_true rfl)) dM_hash_87 ⟨by omega, by omega⟩) (fun  u37 H locs hu29 hP hD hS => ?_)
          obtain ⟨u38, pl⟩ := u37
          obtain ⟨hq29, hO⟩ := hu29
          obtain ⟨ps28, f46, f47, f48⟩ := u38
          have hP : va_P g.1 vcl ([(h0, .inr (8, [.int (nI 0), .int (nI tp), .int (nI rs), .int (nI ks), .ref mt, .ref mr_, .ref mk, .ref mo, .ref mh, .ref mse, .ref mhs, .ref msp, .ref msc, .ref mha])), (mse, .inl (g.2.1 0, 8, .inl fS)), (msp, .inr (9, [.ref am26, .ref am27, .ref am28, .ref am29, .ref am30, .int (nI 72), .int (nI ps28), .int (nI 6)])), (am26, .inl (g.2.1 2, 25, .inr (.inl f46))), (am27, .inl (g.2.1 2, 25, .inr (.inl f47))), (am28, .inl (g.2.1 2, 5, .inr (.inl f48))), (am29, .inl (g.2.1 2, 24, .inr (.inl f41))), (am30, .inl (g.2.1 0, 25, .inl f42))] ++ pl) _ := hP
          have hD : va_D _ ([(h0, .inr (8, [.int (nI 0), .int (nI tp), .int (nI rs), .int (nI ks), .ref mt, .ref mr_, .ref mk, .ref mo, .ref mh, .ref mse, .ref mhs, .ref msp, .ref msc, .ref mha])), (mse, .inl (g.2.1 0, 8, .inl fS)), (msp, .inr (9, [.ref am26, .ref am27, .ref am28, .ref am29, .ref am30, .int (nI 72), .int (nI ps28), .int (nI 6)])), (am26, .inl (g.2.1 2, 25, .inr (.inl f46))), (am27, .inl (g.2.1 2, 25, .inr (.inl f47))), (am28, .inl (g.2.1 2, 5, .inr (.inl f48))), (am29, .inl (g.2.1 2, 24, .inr (.inl f41))), (am30, .inl (g.2.1 0, 25, .inl f42))] ++ pl) := hD
          have hq29 : ps28 ≤ 72 := hq29
          refine W.widen (k := 0) (n := 0) (by omega) (by omega) ?_
          refine lv_aload_n hx hb dM_hash_90 rfl (lv_at hl 0 rfl) ?_
          refine va_get (D := g.1) (ci := 8) (C := "LatticeKeysModel") (T := T_M) (N := 14) hx hb hts (wg_ft i_M) hown hK hP 0 rfl rfl 11 (by decide) (hts _ (wg_t kw_1537)) (fun _ h9 => h9) rfl dM_hash_91 ?_
          refine mp_v (cx := [(msp, .inr (9, [.ref am26, .ref am27, .ref am28, .ref am29, .ref am30, .int (nI 72), .int (nI ps28), .int (nI 6)])), (am26, .inl (g.2.1 2, 25, .inr (.inl f46))), (am27, .inl (g.2.1 2, 25, .inr (.inl f47))), (am28, .inl (g.2.1 2, 5, .inr (.inl f48))), (am29, .inl (g.2.1 2, 24, .inr (.inl f41))), (am30, .inl (g.2.1 0, 25, .inl f42))]) (wr := [(h0, .inr (8, [.int (nI 0), .int (nI tp), .int (nI rs), .int (nI ks), .ref mt, .ref mr_, .ref mk, .ref mo, .ref mh, .ref mse, .ref mhs, .ref msp, .ref msc, .ref mha])), (mse, .inl (g.2.1 0, 8, .inl fS))]) hP hD hS hA [2, 3, 4, 5, 6, 7] [0, 1] rfl rfl rfl (by decide) (va_runV (As := []) (rest := []) F (t_MS_end l g _ T (am30 :: (am29 :: (am28 :: (am27 :: (am26 :: (msp :: [])))))) pl hO hU  msp am26 am27 am28 am29 am30 72 ps28 (nI 6) f46 f47 f48 f41 f42 (by omega) (by omega)) (cwV 0 hts (wg_app (wg_c kw_1940 (wg_c kw_1634 (wg_c kw_1635 (wg_c kw_10 wg_n)))) kw_1636) rfl rfl rfl (by decide +kernel) ⟨by decide, by decide⟩) (pp_V (en_ok g) (q0 := 2) hK hP hD hS hA hE [2, 3, 4, 5, 6, 7] rfl rfl rfl rfl) rfl rfl hl.1 rfl (lv_room (Nat.le_of_ble_eq_true rfl)) dM_hash_94 ⟨by omega, by omega⟩) (fun  u39 H locs hu30 hP hD hS => ?_)
          obtain ⟨u40, pl⟩ := u39
          obtain ⟨hq30, hO⟩ := hu30
          obtain ⟨ps29, f49, f50, f51⟩ := u40
          have hP : va_P g.1 vcl ([(h0, .inr (8, [.int (nI 0), .int (nI tp), .int (nI rs), .int (nI ks), .ref mt, .ref mr_, .ref mk, .ref mo, .ref mh, .ref mse, .ref mhs, .ref msp, .ref msc, .ref mha])), (mse, .inl (g.2.1 0, 8, .inl fS)), (msp, .inr (9, [.ref am26, .ref am27, .ref am28, .ref am29, .ref am30, .int (nI 72), .int (nI ps29), .int (nI 6)])), (am26, .inl (g.2.1 2, 25, .inr (.inl f49))), (am27, .inl (g.2.1 2, 25, .inr (.inl f50))), (am28, .inl (g.2.1 2, 5, .inr (.inl f51))), (am29, .inl (g.2.1 2, 24, .inr (.inl f41))), (am30, .inl (g.2.1 0, 25, .inl f42))] ++ pl) _ := hP
          have hD : va_D _ ([(h0, .inr (8, [.int (nI 0), .int (nI tp), .int (nI rs), .int (nI ks), .ref mt, .ref mr_, .ref mk, .ref mo, .ref mh, .ref mse, .ref mhs, .ref msp, .ref msc, .ref mha])), (mse, .inl (g.2.1 0, 8, .inl fS)), (msp, .inr (9, [.ref am26, .ref am27, .ref am28, .ref am29, .ref am30, .int (nI 72), .int (nI ps29), .int (nI 6)])), (am26, .inl (g.2.1 2, 25, .inr (.inl f49))), (am27, .inl (g.2.1 2, 25, .inr (.inl f50))), (am28, .inl (g.2.1 2, 5, .inr (.inl f51))), (am29, .inl (g.2.1 2, 24, .inr (.inl f41))), (am30, .inl (g.2.1 0, 25, .inl f42))] ++ pl) := hD
          have hq30 : ps29 ≤ 72 := hq30
          refine W.widen (k := 0) (n := 0) (by omega) (by omega) ?_
          refine lv_aload_n hx hb dM_hash_97 rfl (lv_at hl 0 rfl) ?_
          refine lv_iload_n hx hb dM_hash_98 rfl (lv_at hl 1 rfl) ?_
          refine lv_if_ne (tgt := 107) hx hb dM_hash_99 (by decide) (fun h35 => ?_) (fun h35 => absurd h35 (by decide))
          refine lv_iload_n hx hb dM_hash_107 rfl (lv_at hl 1 rfl) ?_
          refine lv_iconst (v := nI 1) hx hb dM_hash_108 (by decide) ?_
          refine mi_ne (tgt := 117) hx hb dM_hash_109 (by decide) (by omega) (by omega) (fun h36 => absurd h36 (by omega)) (fun h36 => ?_)
          refine lv_bipush (v := nI 64) hx hb dM_hash_112 (by decide) ?_
          refine lv_goto (tgt := 118) hx hb dM_hash_114 (by decide) ?_
          refine va_put (D := g.1) (ci := 8) (v := .int (nI 64)) (ty := .int) (C := "LatticeKeysModel") (T := T_M) (N := 14) hx hb hts (wg_ft i_M) ty_M k_M n_M hown hK hP hD hS 0 rfl rfl 2 (by decide) (hts _ (wg_t kw_1528)) (fun _ h9 => h9) rfl (by decide +kernel) rfl rfl (Nat.le_of_ble_eq_true rfl) dM_hash_118 (fun H locs hP hD hS => ?_)
          have hP : va_P g.1 vcl ([(h0, .inr (8, [.int (nI 0), .int (nI tp), .int (nI 64), .int (nI ks), .ref mt, .ref mr_, .ref mk, .ref mo, .ref mh, .ref mse, .ref mhs, .ref msp, .ref msc, .ref mha])), (mse, .inl (g.2.1 0, 8, .inl fS)), (msp, .inr (9, [.ref am26, .ref am27, .ref am28, .ref am29, .ref am30, .int (nI 72), .int (nI ps29), .int (nI 6)])), (am26, .inl (g.2.1 2, 25, .inr (.inl f49))), (am27, .inl (g.2.1 2, 25, .inr (.inl f50))), (am28, .inl (g.2.1 2, 5, .inr (.inl f51))), (am29, .inl (g.2.1 2, 24, .inr (.inl f41))), (am30, .inl (g.2.1 0, 25, .inl f42))] ++ pl) _ := hP
          have hD : va_D _ ([(h0, .inr (8, [.int (nI 0), .int (nI tp), .int (nI 64), .int (nI ks), .ref mt, .ref mr_, .ref mk, .ref mo, .ref mh, .ref mse, .ref mhs, .ref msp, .ref msc, .ref mha])), (mse, .inl (g.2.1 0, 8, .inl fS)), (msp, .inr (9, [.ref am26, .ref am27, .ref am28, .ref am29, .ref am30, .int (nI 72), .int (nI ps29), .int (nI 6)])), (am26, .inl (g.2.1 2, 25, .inr (.inl f49))), (am27, .inl (g.2.1 2, 25, .inr (.inl f50))), (am28, .inl (g.2.1 2, 5, .inr (.inl f51))), (am29, .inl (g.2.1 2, 24, .inr (.inl f41))), (am30, .inl (g.2.1 0, 25, .inl f42))] ++ pl) := hD
          refine lv_aload_n hx hb dM_hash_121 rfl (lv_at hl 0 rfl) ?_
          refine va_get (D := g.1) (ci := 8) (C := "LatticeKeysModel") (T := T_M) (N := 14) hx hb hts (wg_ft i_M) hown hK hP 0 rfl rfl 11 (by decide) (hts _ (wg_t kw_1537)) (fun _ h9 => h9) rfl dM_hash_122 ?_
          refine lv_aload_n hx hb dM_hash_125 rfl (lv_at hl 0 rfl) ?_
          refine va_get (D := g.1) (ci := 8) (C := "LatticeKeysModel") (T := T_M) (N := 14) hx hb hts (wg_ft i_M) hown hK hP 0 rfl rfl 5 (by decide) (hts _ (wg_t kw_1531)) (fun _ h9 => h9) rfl dM_hash_126 ?_
          refine lv_iconst (v := nI 0) hx hb dM_hash_129 (by decide) ?_
          refine lv_aload_n hx hb dM_hash_130 rfl (lv_at hl 0 rfl) ?_
          refine va_get (D := g.1) (ci := 8) (C := "LatticeKeysModel") (T := T_M) (N := 14) hx hb hts (wg_ft i_M) hown hK hP 0 rfl rfl 2 (by decide) (hts _ (wg_t kw_1528)) (fun _ h9 => h9) rfl dM_hash_131 ?_
          refine mp_v (cx := [(msp, .inr (9, [.ref am26, .ref am27, .ref am28, .ref am29, .ref am30, .int (nI 72), .int (nI ps29), .int (nI 6)])), (am26, .inl (g.2.1 2, 25, .inr (.inl f49))), (am27, .inl (g.2.1 2, 25, .inr (.inl f50))), (am28, .inl (g.2.1 2, 5, .inr (.inl f51))), (am29, .inl (g.2.1 2, 24, .inr (.inl f41))), (am30, .inl (g.2.1 0, 25, .inl f42))]) (wr := [(h0, .inr (8, [.int (nI 0), .int (nI tp), .int (nI 64), .int (nI ks), .ref mt, .ref mr_, .ref mk, .ref mo, .ref mh, .ref mse, .ref mhs, .ref msp, .ref msc, .ref mha])), (mse, .inl (g.2.1 0, 8, .inl fS))]) hP hD hS hA [2, 3, 4, 5, 6, 7] [0, 1] rfl rfl rfl (by decide) (va_runV (As := [.ref mr_, .int (nI 0), .int (nI 64)]) (rest := []) F (t_MS_take l g _ T (am30 :: (am29 :: (am28 :: (am27 :: (am26 :: (msp :: [])))))) pl hO hU (clo_cons (clo_cons (clo_cons (clo_cons (clo_cons (clo_cons clo_nil k_msp (by decide)) km26 (by decide)) km27 (by decide)) km28 (by decide)) km29 (by decide)) km30 (by decide)) mr_ 8192 0 64 msp am26 am27 am28 am29 am30 72 ps29 (nI 6) f49 f50 f51 f41 f42 k_mr_ (by omega) (by omega) (by omega) (by omega)) (cwV 3 hts (wg_app (wg_c kw_1941 (wg_c kw_1638 (wg_c kw_1639 (wg_c kw_10 wg_n)))) kw_1640) rfl rfl rfl (by decide +kernel) ⟨by decide, by decide⟩) (pp_V (en_ok g) (q0 := 2) hK hP hD hS hA hE [2, 3, 4, 5, 6, 7] rfl rfl rfl rfl) rfl rfl hl.1 rfl (lv_room (Nat.le_of_ble_eq_true rfl)) dM_hash_134 ⟨by omega, by omega⟩) (fun  u41 H locs hu31 hP hD hS => ?_)
          obtain ⟨u42, pl⟩ := u41
          obtain ⟨hq31, hO⟩ := hu31
          obtain ⟨ps30, f52, f53, f54⟩ := u42
          have hP : va_P g.1 vcl ([(h0, .inr (8, [.int (nI 0), .int (nI tp), .int (nI 64), .int (nI ks), .ref mt, .ref mr_, .ref mk, .ref mo, .ref mh, .ref mse, .ref mhs, .ref msp, .ref msc, .ref mha])), (mse, .inl (g.2.1 0, 8, .inl fS)), (msp, .inr (9, [.ref am26, .ref am27, .ref am28, .ref am29, .ref am30, .int (nI 72), .int (nI ps30), .int (nI 6)])), (am26, .inl (g.2.1 2, 25, .inr (.inl f52))), (am27, .inl (g.2.1 2, 25, .inr (.inl f53))), (am28, .inl (g.2.1 2, 5, .inr (.inl f54))), (am29, .inl (g.2.1 2, 24, .inr (.inl f41))), (am30, .inl (g.2.1 0, 25, .inl f42))] ++ pl) _ := hP
          have hD : va_D _ ([(h0, .inr (8, [.int (nI 0), .int (nI tp), .int (nI 64), .int (nI ks), .ref mt, .ref mr_, .ref mk, .ref mo, .ref mh, .ref mse, .ref mhs, .ref msp, .ref msc, .ref mha])), (mse, .inl (g.2.1 0, 8, .inl fS)), (msp, .inr (9, [.ref am26, .ref am27, .ref am28, .ref am29, .ref am30, .int (nI 72), .int (nI ps30), .int (nI 6)])), (am26, .inl (g.2.1 2, 25, .inr (.inl f52))), (am27, .inl (g.2.1 2, 25, .inr (.inl f53))), (am28, .inl (g.2.1 2, 5, .inr (.inl f54))), (am29, .inl (g.2.1 2, 24, .inr (.inl f41))), (am30, .inl (g.2.1 0, 25, .inl f42))] ++ pl) := hD
          have hq31 : ps30 ≤ 72 := hq31
          refine W.widen (k := 0) (n := 0) (by omega) (by omega) ?_
          refine lv_aload_n hx hb dM_hash_137 rfl (lv_at hl 0 rfl) ?_
          refine lv_iconst (v := nI 0) hx hb dM_hash_138 (by decide) ?_
          refine va_put (D := g.1) (ci := 8) (v := .int (nI 0)) (ty := .int) (C := "LatticeKeysModel") (T := T_M) (N := 14) hx hb hts (wg_ft i_M) ty_M k_M n_M hown hK hP hD hS 0 rfl rfl 1 (by decide) (hts _ (wg_t kw_1527)) (fun _ h9 => h9) rfl (by decide +kernel) rfl rfl (Nat.le_of_ble_eq_true rfl) dM_hash_139 (fun H locs hP hD hS => ?_)
          have hP : va_P g.1 vcl ([(h0, .inr (8, [.int (nI 0), .int (nI 0), .int (nI 64), .int (nI ks), .ref mt, .ref mr_, .ref mk, .ref mo, .ref mh, .ref mse, .ref mhs, .ref msp, .ref msc, .ref mha])), (mse, .inl (g.2.1 0, 8, .inl fS)), (msp, .inr (9, [.ref am26, .ref am27, .ref am28, .ref am29, .ref am30, .int (nI 72), .int (nI ps30), .int (nI 6)])), (am26, .inl (g.2.1 2, 25, .inr (.inl f52))), (am27, .inl (g.2.1 2, 25, .inr (.inl f53))), (am28, .inl (g.2.1 2, 5, .inr (.inl f54))), (am29, .inl (g.2.1 2, 24, .inr (.inl f41))), (am30, .inl (g.2.1 0, 25, .inl f42))] ++ pl) _ := hP
          have hD : va_D _ ([(h0, .inr (8, [.int (nI 0), .int (nI 0), .int (nI 64), .int (nI ks), .ref mt, .ref mr_, .ref mk, .ref mo, .ref mh, .ref mse, .ref mhs, .ref msp, .ref msc, .ref mha])), (mse, .inl (g.2.1 0, 8, .inl fS)), (msp, .inr (9, [.ref am26, .ref am27, .ref am28, .ref am29, .ref am30, .int (nI 72), .int (nI ps30), .int (nI 6)])), (am26, .inl (g.2.1 2, 25, .inr (.inl f52))), (am27, .inl (g.2.1 2, 25, .inr (.inl f53))), (am28, .inl (g.2.1 2, 5, .inr (.inl f54))), (am29, .inl (g.2.1 2, 24, .inr (.inl f41))), (am30, .inl (g.2.1 0, 25, .inl f42))] ++ pl) := hD
          refine lv_aload_n hx hb dM_hash_142 rfl (lv_at hl 0 rfl) ?_
          refine va_get (D := g.1) (ci := 8) (C := "LatticeKeysModel") (T := T_M) (N := 14) hx hb hts (wg_ft i_M) hown hK hP 0 rfl rfl 2 (by decide) (hts _ (wg_t kw_1528)) (fun _ h9 => h9) rfl dM_hash_143 ?_
          have hO := close1 (e := .inl (g.2.1 0, 25, .inl f42)) hO km30 ⟨_, rfl⟩
          have hO := close1 (e := .inl (g.2.1 2, 24, .inr (.inl f41))) hO km29 ⟨_, rfl⟩
          have hO := close1 (e := .inl (g.2.1 2, 5, .inr (.inl f54))) hO km28 ⟨_, rfl⟩
          have hO := close1 (e := .inl (g.2.1 2, 25, .inr (.inl f53))) hO km27 ⟨_, rfl⟩
          have hO := close1 (e := .inl (g.2.1 2, 25, .inr (.inl f52))) hO km26 ⟨_, rfl⟩
          have hO := close1 (e := .inr (9, [.ref am26, .ref am27, .ref am28, .ref am29, .ref am30, .int (nI 72), .int (nI ps30), .int (nI 6)])) hO k_msp ⟨_, _, _, _, _, _, _, _, rfl, km26, km27, km28, km29, km30, by omega, by omega, by omega⟩
          have hO : okx g T [] ((msp, .inr (9, [.ref am26, .ref am27, .ref am28, .ref am29, .ref am30, .int (nI 72), .int (nI ps30), .int (nI 6)])) :: (am26, .inl (g.2.1 2, 25, .inr (.inl f52))) :: (am27, .inl (g.2.1 2, 25, .inr (.inl f53))) :: (am28, .inl (g.2.1 2, 5, .inr (.inl f54))) :: (am29, .inl (g.2.1 2, 24, .inr (.inl f41))) :: (am30, .inl (g.2.1 0, 25, .inl f42)) :: pl) := hO
          have hP : va_P g.1 vcl ([(h0, .inr (8, [.int (nI 0), .int (nI 0), .int (nI 64), .int (nI ks), .ref mt, .ref mr_, .ref mk, .ref mo, .ref mh, .ref mse, .ref mhs, .ref msp, .ref msc, .ref mha])), (mse, .inl (g.2.1 0, 8, .inl fS))] ++ ((msp, .inr (9, [.ref am26, .ref am27, .ref am28, .ref am29, .ref am30, .int (nI 72), .int (nI ps30), .int (nI 6)])) :: (am26, .inl (g.2.1 2, 25, .inr (.inl f52))) :: (am27, .inl (g.2.1 2, 25, .inr (.inl f53))) :: (am28, .inl (g.2.1 2, 5, .inr (.inl f54))) :: (am29, .inl (g.2.1 2, 24, .inr (.inl f41))) :: (am30, .inl (g.2.1 0, 25, .inl f42)) :: pl)) _ := hP
          have hD : va_D _ ([(h0, .inr (8, [.int (nI 0), .int (nI 0), .int (nI 64), .int (nI ks), .ref mt, .ref mr_, .ref mk, .ref mo, .ref mh, .ref mse, .ref mhs, .ref msp, .ref msc, .ref mha])), (mse, .inl (g.2.1 0, 8, .inl fS))] ++ ((msp, .inr (9, [.ref am26, .ref am27, .ref am28, .ref am29, .ref am30, .int (nI 72), .int (nI ps30), .int (nI 6)])) :: (am26, .inl (g.2.1 2, 25, .inr (.inl f52))) :: (am27, .inl (g.2.1 2, 25, .inr (.inl f53))) :: (am28, .inl (g.2.1 2, 5, .inr (.inl f54))) :: (am29, .inl (g.2.1 2, 24, .inr (.inl f41))) :: (am30, .inl (g.2.1 0, 25, .inl f42)) :: pl)) := hD
          generalize ((msp, .inr (9, [.ref am26, .ref am27, .ref am28, .ref am29, .ref am30, .int (nI 72), .int (nI ps30), .int (nI 6)])) :: (am26, .inl (g.2.1 2, 25, .inr (.inl f52))) :: (am27, .inl (g.2.1 2, 25, .inr (.inl f53))) :: (am28, .inl (g.2.1 2, 5, .inr (.inl f54))) :: (am29, .inl (g.2.1 2, 24, .inr (.inl f41))) :: (am30, .inl (g.2.1 0, 25, .inl f42)) :: pl) = pl at hO hP hD
          exact mp_iret hx hb hr hlk hP hD hS ((nI 0, 0, 64, ks, fS), pl) ⟨⟨(by show 0 ≤ 16384; omega), (by show 64 ≤ 8192; omega), (by show ks ≤ 8; omega), hS5, (by rw [hv1 (by omega)]), (fun _ => by rw [hv1 (by omega)])⟩, hO⟩ [0, 1] rfl rfl rfl (by omega) (by omega) dM_hash_146
        · refine lv_aload_n hx hb dM_hash_25 rfl (lv_at hl 0 rfl) ?_
          refine lv_iconst (v := nI 1) hx hb dM_hash_26 (by decide) ?_
          refine mp_i (cx := [(h0, .inr (8, [.int (nI 0), .int (nI tp), .int (nI rs), .int (nI ks), .ref mt, .ref mr_, .ref mk, .ref mo, .ref mh, .ref mse, .ref mhs, .ref msp, .ref msc, .ref mha])), (mse, .inl (g.2.1 0, 8, .inl fS))]) (wr := []) hP hD hS hA [0, 1] [] rfl rfl rfl (by decide) (va_runV (As := [.int (nI 1)]) (rest := []) F (t_M_fail l g _ T  pl hO hU  (nI 1) h0 mt mr_ mk mo mh mse mhs msp msc mha tp rs ks (nI 0) fS k_mt k_mr_ k_mk k_mo k_mh k_mhs k_msp k_msc k_mha (by omega) hS5) (cwV 1 hts (wg_app (wg_c kw_1577 (wg_c kw_1579 (wg_c ks_50 (wg_c kw_9 wg_n)))) kw_1580) rfl rfl rfl (by decide +kernel) ⟨by decide, by decide⟩) (pp_V (en_ok g) (q0 := 0) hK hP hD hS hA hE [0, 1] rfl rfl rfl rfl) rfl rfl hl.1 rfl (lv_room (Nat.le_of_ble_eq_true rfl)) dM_hash_27 ⟨by omega, by omega⟩) (fun r24 u43 H locs hu32 hP hD hS => ?_)
          obtain ⟨u44, pl⟩ := u43
          obtain ⟨hq32, hO⟩ := hu32
          obtain ⟨th24, tp24, rs24, ks24, fS24⟩ := u44
          have hP : va_P g.1 vcl ([(h0, .inr (8, [.int th24, .int (nI tp24), .int (nI rs24), .int (nI ks24), .ref mt, .ref mr_, .ref mk, .ref mo, .ref mh, .ref mse, .ref mhs, .ref msp, .ref msc, .ref mha])), (mse, .inl (g.2.1 0, 8, .inl fS24))] ++ pl) _ := hP
          have hD : va_D _ ([(h0, .inr (8, [.int th24, .int (nI tp24), .int (nI rs24), .int (nI ks24), .ref mt, .ref mr_, .ref mk, .ref mo, .ref mh, .ref mse, .ref mhs, .ref msp, .ref msc, .ref mha])), (mse, .inl (g.2.1 0, 8, .inl fS24))] ++ pl) := hD
          obtain ⟨-, -, -, hm39, hm40⟩ := hq32
          obtain ⟨he36, he37, he38, he39, he40⟩ := hm40
          have he36 : th24 = nI 1 := he36
          have he37 : tp24 = tp := he37
          have he38 : rs24 = rs := he38
          have he39 : ks24 = ks := he39
          obtain rfl := he40
          refine W.widen (k := 0) (n := 0) (by omega) (by omega) ?_
          exact mp_iret hx hb hr hlk hP hD hS ((th24, tp24, rs24, ks24, fS24), pl) ⟨⟨(by show tp24 ≤ 16384; omega), (by show rs24 ≤ 8192; omega), (by show ks24 ≤ 8; omega), hm39, (by rw [hval_bad (Or.inr (Or.inr (Or.inr (Int32.not_le.mp h32))))]; exact he36), (fun h9 => absurd (show nI 1 = nI 0 from he36.symm.trans h9) (by decide))⟩, hO⟩ [0, 1] rfl rfl rfl (by omega) (by omega) dM_hash_30
    | 2, _ =>
      refine lv_iload_n hx hb dM_hash_5 rfl (lv_at hl 1 rfl) ?_
      refine lv_if_lt (tgt := 25) hx hb dM_hash_6 (by decide) (fun h37 => absurd h37 (by decide)) (fun h37 => ?_)
      refine lv_iload_n hx hb dM_hash_9 rfl (lv_at hl 1 rfl) ?_
      refine lv_iconst (v := nI 3) hx hb dM_hash_10 (by decide) ?_
      refine mi_gt (tgt := 25) hx hb dM_hash_11 (by decide) (by omega) (by omega) (fun h38 => absurd h38 (by omega)) (fun h38 => ?_)
      refine lv_iload_n hx hb dM_hash_14 rfl (lv_at hl 2 rfl) ?_
      refine lv_if_lt (tgt := 25) hx hb dM_hash_15 (by decide) (fun h39 => ?_) (fun h39 => ?_)
      · refine lv_aload_n hx hb dM_hash_25 rfl (lv_at hl 0 rfl) ?_
        refine lv_iconst (v := nI 1) hx hb dM_hash_26 (by decide) ?_
        refine mp_i (cx := [(h0, .inr (8, [.int (nI 0), .int (nI tp), .int (nI rs), .int (nI ks), .ref mt, .ref mr_, .ref mk, .ref mo, .ref mh, .ref mse, .ref mhs, .ref msp, .ref msc, .ref mha])), (mse, .inl (g.2.1 0, 8, .inl fS))]) (wr := []) hP hD hS hA [0, 1] [] rfl rfl rfl (by decide) (va_runV (As := [.int (nI 1)]) (rest := []) F (t_M_fail l g _ T  pl hO hU  (nI 1) h0 mt mr_ mk mo mh mse mhs msp msc mha tp rs ks (nI 0) fS k_mt k_mr_ k_mk k_mo k_mh k_mhs k_msp k_msc k_mha (by omega) hS5) (cwV 1 hts (wg_app (wg_c kw_1577 (wg_c kw_1579 (wg_c ks_50 (wg_c kw_9 wg_n)))) kw_1580) rfl rfl rfl (by decide +kernel) ⟨by decide, by decide⟩) (pp_V (en_ok g) (q0 := 0) hK hP hD hS hA hE [0, 1] rfl rfl rfl rfl) rfl rfl hl.1 rfl (lv_room (Nat.le_of_ble_eq_true rfl)) dM_hash_27 ⟨by omega, by omega⟩) (fun r25 u45 H locs hu33 hP hD hS => ?_)
        obtain ⟨u46, pl⟩ := u45
        obtain ⟨hq33, hO⟩ := hu33
        obtain ⟨th25, tp25, rs25, ks25, fS25⟩ := u46
        have hP : va_P g.1 vcl ([(h0, .inr (8, [.int th25, .int (nI tp25), .int (nI rs25), .int (nI ks25), .ref mt, .ref mr_, .ref mk, .ref mo, .ref mh, .ref mse, .ref mhs, .ref msp, .ref msc, .ref mha])), (mse, .inl (g.2.1 0, 8, .inl fS25))] ++ pl) _ := hP
        have hD : va_D _ ([(h0, .inr (8, [.int th25, .int (nI tp25), .int (nI rs25), .int (nI ks25), .ref mt, .ref mr_, .ref mk, .ref mo, .ref mh, .ref mse, .ref mhs, .ref msp, .ref msc, .ref mha])), (mse, .inl (g.2.1 0, 8, .inl fS25))] ++ pl) := hD
        obtain ⟨-, -, -, hm44, hm45⟩ := hq33
        obtain ⟨he41, he42, he43, he44, he45⟩ := hm45
        have he41 : th25 = nI 1 := he41
        have he42 : tp25 = tp := he42
        have he43 : rs25 = rs := he43
        have he44 : ks25 = ks := he44
        obtain rfl := he45
        refine W.widen (k := 0) (n := 0) (by omega) (by omega) ?_
        exact mp_iret hx hb hr hlk hP hD hS ((th25, tp25, rs25, ks25, fS25), pl) ⟨⟨(by show tp25 ≤ 16384; omega), (by show rs25 ≤ 8192; omega), (by show ks25 ≤ 8; omega), hm44, (by rw [hval_bad (Or.inr (Or.inr (Or.inl h39)))]; exact he41), (fun h9 => absurd (show nI 1 = nI 0 from he41.symm.trans h9) (by decide))⟩, hO⟩ [0, 1] rfl rfl rfl (by omega) (by omega) dM_hash_30
      · refine lv_iload_n hx hb dM_hash_18 rfl (lv_at hl 2 rfl) ?_
        refine lv_sipush (v := nI 8192) hx hb dM_hash_19 (by decide) ?_
        refine lv_icmp_le (tgt := 31) hx hb dM_hash_22 (by decide) (fun h40 => ?_) (fun h40 => ?_)
        · obtain ⟨z23, hz23, rfl⟩ := i32_le h39 (by omega) h40
          refine lv_aload_n hx hb dM_hash_31 rfl (lv_at hl 0 rfl) ?_
          refine va_get (D := g.1) (ci := 8) (C := "LatticeKeysModel") (T := T_M) (N := 14) hx hb hts (wg_ft i_M) hown hK hP 0 rfl rfl 11 (by decide) (hts _ (wg_t kw_1537)) (fun _ h9 => h9) rfl dM_hash_32 ?_
          refine lv_iload_n hx hb dM_hash_35 rfl (lv_at hl 1 rfl) ?_
          refine lv_iconst (v := nI 1) hx hb dM_hash_36 (by decide) ?_
          refine mi_ne (tgt := 45) hx hb dM_hash_37 (by decide) (by omega) (by omega) (fun h41 => ?_) (fun h41 => absurd h41 (by omega))
          refine lv_iload_n hx hb dM_hash_45 rfl (lv_at hl 1 rfl) ?_
          refine lv_iconst (v := nI 2) hx hb dM_hash_46 (by decide) ?_
          refine mi_ne (tgt := 56) hx hb dM_hash_47 (by decide) (by omega) (by omega) (fun h42 => absurd h42 (by omega)) (fun h42 => ?_)
          refine lv_sipush (v := nI 168) hx hb dM_hash_50 (by decide) ?_
          refine lv_goto (tgt := 59) hx hb dM_hash_53 (by decide) ?_
          refine lv_iload_n hx hb dM_hash_59 rfl (lv_at hl 1 rfl) ?_
          refine lv_iconst (v := nI 2) hx hb dM_hash_60 (by decide) ?_
          refine mi_ge (tgt := 69) hx hb dM_hash_61 (by decide) (by omega) (by omega) (fun h43 => ?_) (fun h43 => absurd h43 (by omega))
          refine lv_bipush (v := nI 31) hx hb dM_hash_69 (by decide) ?_
          obtain ⟨e33, pl, hP, hD, hk33, hO⟩ := open1 hP hD hO k_msp (nxg clo_nil k_msp rfl)
          obtain ⟨am31, am32, am33, am34, am35, rt23, ps31, x23, rfl, km31, km32, km33, km34, km35, hr27, hr28, hr29⟩ := hk33
          obtain ⟨e34, pl, hP, hD, hk34, hO⟩ := open1 hP hD hO km31 (nmc (knd_ne km31 k_msp (by decide)) (nxg clo_nil km31 rfl))
          obtain ⟨f55, rfl⟩ := hk34
          obtain ⟨e35, pl, hP, hD, hk35, hO⟩ := open1 hP hD hO km32 (nmc (knd_ne km32 km31 (by decide)) (nmc (knd_ne km32 k_msp (by decide)) (nxg clo_nil km32 rfl)))
          obtain ⟨f56, rfl⟩ := hk35
          obtain ⟨e36, pl, hP, hD, hk36, hO⟩ := open1 hP hD hO km33 (nmc (knd_ne km33 km32 (by decide)) (nmc (knd_ne km33 km31 (by decide)) (nmc (knd_ne km33 k_msp (by decide)) (nxg clo_nil km33 rfl))))
          obtain ⟨f57, rfl⟩ := hk36
          obtain ⟨e37, pl, hP, hD, hk37, hO⟩ := open1 hP hD hO km34 (nmc (knd_ne km34 km33 (by decide)) (nmc (knd_ne km34 km32 (by decide)) (nmc (knd_ne km34 km31 (by decide)) (nmc (knd_ne km34 k_msp (by decide)) (nxg clo_nil km34 rfl)))))
          obtain ⟨f58, rfl⟩ := hk37
          obtain ⟨e38, pl, hP, hD, hk38, hO⟩ := open1 hP hD hO km35 (nmc (knd_ne km35 km34 (by decide)) (nmc (knd_ne km35 km33 (by decide)) (nmc (knd_ne km35 km32 (by decide)) (nmc (knd_ne km35 km31 (by decide)) (nmc (knd_ne km35 k_msp (by decide)) (nxg clo_nil km35 rfl))))))
          obtain ⟨f59, rfl⟩ := hk38
          have hP : va_P g.1 vcl ([(h0, .inr (8, [.int (nI 0), .int (nI tp), .int (nI rs), .int (nI ks), .ref mt, .ref mr_, .ref mk, .ref mo, .ref mh, .ref mse, .ref mhs, .ref msp, .ref msc, .ref mha])), (mse, .inl (g.2.1 0, 8, .inl fS)), (msp, .inr (9, [.ref am31, .ref am32, .ref am33, .ref am34, .ref am35, .int (nI rt23), .int (nI ps31), .int x23])), (am31, .inl (g.2.1 2, 25, .inr (.inl f55))), (am32, .inl (g.2.1 2, 25, .inr (.inl f56))), (am33, .inl (g.2.1 2, 5, .inr (.inl f57))), (am34, .inl (g.2.1 2, 24, .inr (.inl f58))), (am35, .inl (g.2.1 0, 25, .inl f59))] ++ pl) _ := hP
          have hD : va_D _ ([(h0, .inr (8, [.int (nI 0), .int (nI tp), .int (nI rs), .int (nI ks), .ref mt, .ref mr_, .ref mk, .ref mo, .ref mh, .ref mse, .ref mhs, .ref msp, .ref msc, .ref mha])), (mse, .inl (g.2.1 0, 8, .inl fS)), (msp, .inr (9, [.ref am31, .ref am32, .ref am33, .ref am34, .ref am35, .int (nI rt23), .int (nI ps31), .int x23])), (am31, .inl (g.2.1 2, 25, .inr (.inl f55))), (am32, .inl (g.2.1 2, 25, .inr (.inl f56))), (am33, .inl (g.2.1 2, 5, .inr (.inl f57))), (am34, .inl (g.2.1 2, 24, .inr (.inl f58))), (am35, .inl (g.2.1 0, 25, .inl f59))] ++ pl) := hD
          refine mp_v (cx := [(msp, .inr (9, [.ref am31, .ref am32, .ref am33, .ref am34, .ref am35, .int (nI rt23), .int (nI ps31), .int x23])), (am31, .inl (g.2.1 2, 25, .inr (.inl f55))), (am32, .inl (g.2.1 2, 25, .inr (.inl f56))), (am33, .inl (g.2.1 2, 5, .inr (.inl f57))), (am34, .inl (g.2.1 2, 24, .inr (.inl f58))), (am35, .inl (g.2.1 0, 25, .inl f59))]) (wr := [(h0, .inr (8, [.int (nI 0), .int (nI tp), .int (nI rs), .int (nI ks), .ref mt, .ref mr_, .ref mk, .ref mo, .ref mh, .ref mse, .ref mhs, .ref msp, .ref msc, .ref mha])), (mse, .inl (g.2.1 0, 8, .inl fS))]) hP hD hS hA [2, 3, 4, 5, 6, 7] [0, 1] rfl rfl rfl (by decide) (va_runV (As := [.int (nI 168), .int (nI 31)]) (rest := []) F (t_MS_begin l g _ T (am35 :: (am34 :: (am33 :: (am32 :: (am31 :: (msp :: [])))))) pl hO hU  168 (nI 31) msp am31 am32 am33 am34 am35 rt23 ps31 x23 f55 f56 f57 f58 f59 (by omega)) (cwV 2 hts (wg_app (wg_c kw_1938 (wg_c kw_1608 (wg_c kw_1609 (wg_c kw_10 wg_n)))) kw_1610) rfl rfl rfl (by decide +kernel) ⟨by decide, by decide⟩) (pp_V (en_ok g) (q0 := 2) hK hP hD hS hA hE [2, 3, 4, 5, 6, 7] rfl rfl rfl rfl) rfl rfl hl.1 rfl (lv_room (Nat.le_of_ble_eq_true rfl)) dM_hash_71 ⟨by omega, by omega⟩) (fun  u47 H locs hu34 hP hD hS => ?_)
          obtain ⟨u48, pl⟩ := u47
          obtain ⟨hq34, hO⟩ := hu34
          obtain ⟨ps32, f60, f61, f62⟩ := u48
          have hP : va_P g.1 vcl ([(h0, .inr (8, [.int (nI 0), .int (nI tp), .int (nI rs), .int (nI ks), .ref mt, .ref mr_, .ref mk, .ref mo, .ref mh, .ref mse, .ref mhs, .ref msp, .ref msc, .ref mha])), (mse, .inl (g.2.1 0, 8, .inl fS)), (msp, .inr (9, [.ref am31, .ref am32, .ref am33, .ref am34, .ref am35, .int (nI 168), .int (nI ps32), .int (nI 31)])), (am31, .inl (g.2.1 2, 25, .inr (.inl f60))), (am32, .inl (g.2.1 2, 25, .inr (.inl f61))), (am33, .inl (g.2.1 2, 5, .inr (.inl f62))), (am34, .inl (g.2.1 2, 24, .inr (.inl f58))), (am35, .inl (g.2.1 0, 25, .inl f59))] ++ pl) _ := hP
          have hD : va_D _ ([(h0, .inr (8, [.int (nI 0), .int (nI tp), .int (nI rs), .int (nI ks), .ref mt, .ref mr_, .ref mk, .ref mo, .ref mh, .ref mse, .ref mhs, .ref msp, .ref msc, .ref mha])), (mse, .inl (g.2.1 0, 8, .inl fS)), (msp, .inr (9, [.ref am31, .ref am32, .ref am33, .ref am34, .ref am35, .int (nI 168), .int (nI ps32), .int (nI 31)])), (am31, .inl (g.2.1 2, 25, .inr (.inl f60))), (am32, .inl (g.2.1 2, 25, .inr (.inl f61))), (am33, .inl (g.2.1 2, 5, .inr (.inl f62))), (am34, .inl (g.2.1 2, 24, .inr (.inl f58))), (am35, .inl (g.2.1 0, 25, .inl f59))] ++ pl) := hD
          have hq34 : ps32 ≤ 168 := hq34
          refine W.widen (k := 0) (n := 0) (by omega) (by omega) ?_
          refine lv_aload_n hx hb dM_hash_74 rfl (lv_at hl 0 rfl) ?_
          refine va_get (D := g.1) (ci := 8) (C := "LatticeKeysModel") (T := T_M) (N := 14) hx hb hts (wg_ft i_M) hown hK hP 0 rfl rfl 11 (by decide) (hts _ (wg_t kw_1537)) (fun _ h9 => h9) rfl dM_hash_75 ?_
          refine lv_aload_n hx hb dM_hash_78 rfl (lv_at hl 0 rfl) ?_
          refine va_get (D := g.1) (ci := 8) (C := "LatticeKeysModel") (T := T_M) (N := 14) hx hb hts (wg_ft i_M) hown hK hP 0 rfl rfl 4 (by decide) (hts _ (wg_t kw_1530)) (fun _ h9 => h9) rfl dM_hash_79 ?_
          refine lv_iconst (v := nI 0) hx hb dM_hash_82 (by decide) ?_
          refine lv_aload_n hx hb dM_hash_83 rfl (lv_at hl 0 rfl) ?_
          refine va_get (D := g.1) (ci := 8) (C := "LatticeKeysModel") (T := T_M) (N := 14) hx hb hts (wg_ft i_M) hown hK hP 0 rfl rfl 1 (by decide) (hts _ (wg_t kw_1527)) (fun _ h9 => h9) rfl dM_hash_84 ?_
          refine mp_v (cx := [(msp, .inr (9, [.ref am31, .ref am32, .ref am33, .ref am34, .ref am35, .int (nI 168), .int (nI ps32), .int (nI 31)])), (am31, .inl (g.2.1 2, 25, .inr (.inl f60))), (am32, .inl (g.2.1 2, 25, .inr (.inl f61))), (am33, .inl (g.2.1 2, 5, .inr (.inl f62))), (am34, .inl (g.2.1 2, 24, .inr (.inl f58))), (am35, .inl (g.2.1 0, 25, .inl f59))]) (wr := [(h0, .inr (8, [.int (nI 0), .int (nI tp), .int (nI rs), .int (nI ks), .ref mt, .ref mr_, .ref mk, .ref mo, .ref mh, .ref mse, .ref mhs, .ref msp, .ref msc, .ref mha])), (mse, .inl (g.2.1 0, 8, .inl fS))]) hP hD hS hA [2, 3, 4, 5, 6, 7] [0, 1] rfl rfl rfl (by decide) (va_runV (As := [.ref mt, .int (nI 0), .int (nI tp)]) (rest := []) F (t_MS_puts l g _ T (am35 :: (am34 :: (am33 :: (am32 :: (am31 :: (msp :: [])))))) pl hO hU (clo_cons (clo_cons (clo_cons (clo_cons (clo_cons (clo_cons clo_nil k_msp (by decide)) km31 (by decide)) km32 (by decide)) km33 (by decide)) km34 (by decide)) km35 (by decide)) mt 16384 0 tp msp am31 am32 am33 am34 am35 168 ps32 (nI 31) f60 f61 f62 f58 f59 k_mt (by omega) (by omega) (by omega) (by omega)) (cwV 3 hts (wg_app (wg_c kw_1939 (wg_c kw_1612 (wg_c kw_1613 (wg_c kw_10 wg_n)))) kw_1614) rfl rfl rfl (by decide +kernel) ⟨by decide, by decide⟩) (pp_V (en_ok g) (q0 := 2) hK hP hD hS hA hE [2, 3, 4, 5, 6, 7] rfl rfl rfl rfl) rfl rfl hl.1 rfl (lv_room (Nat.le_of_ble_eq_true rfl)) dM_hash_87 ⟨by omega, by omega⟩) (fun  u49 H locs hu35 hP hD hS => ?_)
          obtain ⟨u50, pl⟩ := u49
          obtain ⟨hq35, hO⟩ := hu35
          obtain ⟨ps33, f63, f64, f65⟩ := u50
          have hP : va_P g.1 vcl ([(h0, .inr (8, [.int (nI 0), .int (nI tp), .int (nI rs), .int (nI ks), .ref mt, .ref mr_, .ref mk, .ref mo, .ref mh, .ref mse, .ref mhs, .ref msp, .ref msc, .ref mha])), (mse, .inl (g.2.1 0, 8, .inl fS)), (msp, .inr (9, [.ref am31, .ref am32, .ref am33, .ref am34, .ref am35, .int (nI 168), .int (nI ps33), .int (nI 31)])), (am31, .inl (g.2.1 2, 25, .inr (.inl f63))), (am32, .inl (g.2.1 2, 25, .inr (.inl f64))), (am33, .inl (g.2.1 2, 5, .inr (.inl f65))), (am34, .inl (g.2.1 2, 24, .inr (.inl f58))), (am35, .inl (g.2.1 0, 25, .inl f59))] ++ pl) _ := hP
          have hD : va_D _ ([(h0, .inr (8, [.int (nI 0), .int (nI tp), .int (nI rs), .int (nI ks), .ref mt, .ref mr_, .ref mk, .ref mo, .ref mh, .ref mse, .ref mhs, .ref msp, .ref msc, .ref mha])), (mse, .inl (g.2.1 0, 8, .inl fS)), (msp, .inr (9, [.ref am31, .ref am32, .ref am33, .ref am34, .ref am35, .int (nI 168), .int (nI ps33), .int (nI 31)])), (am31, .inl (g.2.1 2, 25, .inr (.inl f63))), (am32, .inl (g.2.1 2, 25, .inr (.inl f64))), (am33, .inl (g.2.1 2, 5, .inr (.inl f65))), (am34, .inl (g.2.1 2, 24, .inr (.inl f58))), (am35, .inl (g.2.1 0, 25, .inl f59))] ++ pl) := hD
          have hq35 : ps33 ≤ 168 := hq35
          refine W.widen (k := 0) (n := 0) (by omega) (by omega) ?_
          refine lv_aload_n hx hb dM_hash_90 rfl (lv_at hl 0 rfl) ?_
          refine va_get (D := g.1) (ci := 8) (C := "LatticeKeysModel") (T := T_M) (N := 14) hx hb hts (wg_ft i_M) hown hK hP 0 rfl rfl 11 (by decide) (hts _ (wg_t kw_1537)) (fun _ h9 => h9) rfl dM_hash_91 ?_
          refine mp_v (cx := [(msp, .inr (9, [.ref am31, .ref am32, .ref am33, .ref am34, .ref am35, .int (nI 168), .int (nI ps33), .int (nI 31)])), (am31, .inl (g.2.1 2, 25, .inr (.inl f63))), (am32, .inl (g.2.1 2, 25, .inr (.inl f64))), (am33, .inl (g.2.1 2, 5, .inr (.inl f65))), (am34, .inl (g.2.1 2, 24, .inr (.inl f58))), (am35, .inl (g.2.1 0, 25, .inl f59))]) (wr := [(h0, .inr (8, [.int (nI 0), .int (nI tp), .int (nI rs), .int (nI ks), .ref mt, .ref mr_, .ref mk, .ref mo, .ref mh, .ref mse, .ref mhs, .ref msp, .ref msc, .ref mha])), (mse, .inl (g.2.1 0, 8, .inl fS))]) hP hD hS hA [2, 3, 4, 5, 6, 7] [0, 1] rfl rfl rfl (by decide) (va_runV (As := []) (rest := []) F (t_MS_end l g _ T (am35 :: (am34 :: (am33 :: (am32 :: (am31 :: (msp :: [])))))) pl hO hU  msp am31 am32 am33 am34 am35 168 ps33 (nI 31) f63 f64 f65 f58 f59 (by omega) (by omega)) (cwV 0 hts (wg_app (wg_c kw_1940 (wg_c kw_1634 (wg_c kw_1635 (wg_c kw_10 wg_n)))) kw_1636) rfl rfl rfl (by decide +kernel) ⟨by decide, by decide⟩) (pp_V (en_ok g) (q0 := 2) hK hP hD hS hA hE [2, 3, 4, 5, 6, 7] rfl rfl rfl rfl) rfl rfl hl.1 rfl (lv_room (Nat.le_of_ble_eq_true rfl)) dM_hash_94 ⟨by omega, by omega⟩) (fun  u51 H locs hu36 hP hD hS => ?_)
          obtain ⟨u52, pl⟩ := u51
          obtain ⟨hq36, hO⟩ := hu36
          obtain ⟨ps34, f66, f67, f68⟩ := u52
          have hP : va_P g.1 vcl ([(h0, .inr (8, [.int (nI 0), .int (nI tp), .int (nI rs), .int (nI ks), .ref mt, .ref mr_, .ref mk, .ref mo, .ref mh, .ref mse, .ref mhs, .ref msp, .ref msc, .ref mha])), (mse, .inl (g.2.1 0, 8, .inl fS)), (msp, .inr (9, [.ref am31, .ref am32, .ref am33, .ref am34, .ref am35, .int (nI 168), .int (nI ps34), .int (nI 31)])), (am31, .inl (g.2.1 2, 25, .inr (.inl f66))), (am32, .inl (g.2.1 2, 25, .inr (.inl f67))), (am33, .inl (g.2.1 2, 5, .inr (.inl f68))), (am34, .inl (g.2.1 2, 24, .inr (.inl f58))), (am35, .inl (g.2.1 0, 25, .inl f59))] ++ pl) _ := hP
          have hD : va_D _ ([(h0, .inr (8, [.int (nI 0), .int (nI tp), .int (nI rs), .int (nI ks), .ref mt, .ref mr_, .ref mk, .ref mo, .ref mh, .ref mse, .ref mhs, .ref msp, .ref msc, .ref mha])), (mse, .inl (g.2.1 0, 8, .inl fS)), (msp, .inr (9, [.ref am31, .ref am32, .ref am33, .ref am34, .ref am35, .int (nI 168), .int (nI ps34), .int (nI 31)])), (am31, .inl (g.2.1 2, 25, .inr (.inl f66))), (am32, .inl (g.2.1 2, 25, .inr (.inl f67))), (am33, .inl (g.2.1 2, 5, .inr (.inl f68))), (am34, .inl (g.2.1 2, 24, .inr (.inl f58))), (am35, .inl (g.2.1 0, 25, .inl f59))] ++ pl) := hD
          have hq36 : ps34 ≤ 168 := hq36
          refine W.widen (k := 0) (n := 0) (by omega) (by omega) ?_
          refine lv_aload_n hx hb dM_hash_97 rfl (lv_at hl 0 rfl) ?_
          refine lv_iload_n hx hb dM_hash_98 rfl (lv_at hl 1 rfl) ?_
          refine lv_if_ne (tgt := 107) hx hb dM_hash_99 (by decide) (fun h44 => ?_) (fun h44 => absurd h44 (by decide))
          refine lv_iload_n hx hb dM_hash_107 rfl (lv_at hl 1 rfl) ?_
          refine lv_iconst (v := nI 1) hx hb dM_hash_108 (by decide) ?_
          refine mi_ne (tgt := 117) hx hb dM_hash_109 (by decide) (by omega) (by omega) (fun h45 => ?_) (fun h45 => absurd h45 (by omega))
          refine lv_iload_n hx hb dM_hash_117 rfl (lv_at hl 2 rfl) ?_
          refine va_put (D := g.1) (ci := 8) (v := .int (nI z23)) (ty := .int) (C := "LatticeKeysModel") (T := T_M) (N := 14) hx hb hts (wg_ft i_M) ty_M k_M n_M hown hK hP hD hS 0 rfl rfl 2 (by decide) (hts _ (wg_t kw_1528)) (fun _ h9 => h9) rfl (by decide +kernel) rfl rfl (Nat.le_of_ble_eq_true rfl) dM_hash_118 (fun H locs hP hD hS => ?_)
          have hP : va_P g.1 vcl ([(h0, .inr (8, [.int (nI 0), .int (nI tp), .int (nI z23), .int (nI ks), .ref mt, .ref mr_, .ref mk, .ref mo, .ref mh, .ref mse, .ref mhs, .ref msp, .ref msc, .ref mha])), (mse, .inl (g.2.1 0, 8, .inl fS)), (msp, .inr (9, [.ref am31, .ref am32, .ref am33, .ref am34, .ref am35, .int (nI 168), .int (nI ps34), .int (nI 31)])), (am31, .inl (g.2.1 2, 25, .inr (.inl f66))), (am32, .inl (g.2.1 2, 25, .inr (.inl f67))), (am33, .inl (g.2.1 2, 5, .inr (.inl f68))), (am34, .inl (g.2.1 2, 24, .inr (.inl f58))), (am35, .inl (g.2.1 0, 25, .inl f59))] ++ pl) _ := hP
          have hD : va_D _ ([(h0, .inr (8, [.int (nI 0), .int (nI tp), .int (nI z23), .int (nI ks), .ref mt, .ref mr_, .ref mk, .ref mo, .ref mh, .ref mse, .ref mhs, .ref msp, .ref msc, .ref mha])), (mse, .inl (g.2.1 0, 8, .inl fS)), (msp, .inr (9, [.ref am31, .ref am32, .ref am33, .ref am34, .ref am35, .int (nI 168), .int (nI ps34), .int (nI 31)])), (am31, .inl (g.2.1 2, 25, .inr (.inl f66))), (am32, .inl (g.2.1 2, 25, .inr (.inl f67))), (am33, .inl (g.2.1 2, 5, .inr (.inl f68))), (am34, .inl (g.2.1 2, 24, .inr (.inl f58))), (am35, .inl (g.2.1 0, 25, .inl f59))] ++ pl) := hD
          refine lv_aload_n hx hb dM_hash_121 rfl (lv_at hl 0 rfl) ?_
          refine va_get (D := g.1) (ci := 8) (C := "LatticeKeysModel") (T := T_M) (N := 14) hx hb hts (wg_ft i_M) hown hK hP 0 rfl rfl 11 (by decide) (hts _ (wg_t kw_1537)) (fun _ h9 => h9) rfl dM_hash_122 ?_
          refine lv_aload_n hx hb dM_hash_125 rfl (lv_at hl 0 rfl) ?_
          refine va_get (D := g.1) (ci := 8) (C := "LatticeKeysModel") (T := T_M) (N := 14) hx hb hts (wg_ft i_M) hown hK hP 0 rfl rfl 5 (by decide) (hts _ (wg_t kw_1531)) (fun _ h9 => h9) rfl dM_hash_126 ?_
          refine lv_iconst (v := nI 0) hx hb dM_hash_129 (by decide) ?_
          refine lv_aload_n hx hb dM_hash_130 rfl (lv_at hl 0 rfl) ?_
          refine va_get (D := g.1) (ci := 8) (C := "LatticeKeysModel") (T := T_M) (N := 14) hx hb hts (wg_ft i_M) hown hK hP 0 rfl rfl 2 (by decide) (hts _ (wg_t kw_1528)) (fun _ h9 => h9) rfl dM_hash_131 ?_
          refine mp_v (cx := [(msp, .inr (9, [.ref am31, .ref am32, .ref am33, .ref am34, .ref am35, .int (nI 168), .int (nI ps34), .int (nI 31)])), (am31, .inl (g.2.1 2, 25, .inr (.inl f66))), (am32, .inl (g.2.1 2, 25, .inr (.inl f67))), (am33, .inl (g.2.1 2, 5, .inr (.inl f68))), (am34, .inl (g.2.1 2, 24, .inr (.inl f58))), (am35, .inl (g.2.1 0, 25, .inl f59))]) (wr := [(h0, .inr (8, [.int (nI 0), .int (nI tp), .int (nI z23), .int (nI ks), .ref mt, .ref mr_, .ref mk, .ref mo, .ref mh, .ref mse, .ref mhs, .ref msp, .ref msc, .ref mha])), (mse, .inl (g.2.1 0, 8, .inl fS))]) hP hD hS hA [2, 3, 4, 5, 6, 7] [0, 1] rfl rfl rfl (by decide) (va_runV (As := [.ref mr_, .int (nI 0), .int (nI z23)]) (rest := []) F (t_MS_take l g _ T (am35 :: (am34 :: (am33 :: (am32 :: (am31 :: (msp :: [])))))) pl hO hU (clo_cons (clo_cons (clo_cons (clo_cons (clo_cons (clo_cons clo_nil k_msp (by decide)) km31 (by decide)) km32 (by decide)) km33 (by decide)) km34 (by decide)) km35 (by decide)) mr_ 8192 0 z23 msp am31 am32 am33 am34 am35 168 ps34 (nI 31) f66 f67 f68 f58 f59 k_mr_ (by omega) (by omega) (by omega) (by omega)) (cwV 3 hts (wg_app (wg_c kw_1941 (wg_c kw_1638 (wg_c kw_1639 (wg_c kw_10 wg_n)))) kw_1640) rfl rfl rfl (by decide +kernel) ⟨by decide, by decide⟩) (pp_V (en_ok g) (q0 := 2) hK hP hD hS hA hE [2, 3, 4, 5, 6, 7] rfl rfl rfl rfl) rfl rfl hl.1 rfl (lv_room (Nat.le_of_ble_eq_true rfl)) dM_hash_134 ⟨by omega, by omega⟩) (fun  u53 H locs hu37 hP hD hS => ?_)
          obtain ⟨u54, pl⟩ := u53
          obtain ⟨hq37, hO⟩ := hu37
          obtain ⟨ps35, f69, f70, f71⟩ := u54
          have hP : va_P g.1 vcl ([(h0, .inr (8, [.int (nI 0), .int (nI tp), .int (nI z23), .int (nI ks), .ref mt, .ref mr_, .ref mk, .ref mo, .ref mh, .ref mse, .ref mhs, .ref msp, .ref msc, .ref mha])), (mse, .inl (g.2.1 0, 8, .inl fS)), (msp, .inr (9, [.ref am31, .ref am32, .ref am33, .ref am34, .ref am35, .int (nI 168), .int (nI ps35), .int (nI 31)])), (am31, .inl (g.2.1 2, 25, .inr (.inl f69))), (am32, .inl (g.2.1 2, 25, .inr (.inl f70))), (am33, .inl (g.2.1 2, 5, .inr (.inl f71))), (am34, .inl (g.2.1 2, 24, .inr (.inl f58))), (am35, .inl (g.2.1 0, 25, .inl f59))] ++ pl) _ := hP
          have hD : va_D _ ([(h0, .inr (8, [.int (nI 0), .int (nI tp), .int (nI z23), .int (nI ks), .ref mt, .ref mr_, .ref mk, .ref mo, .ref mh, .ref mse, .ref mhs, .ref msp, .ref msc, .ref mha])), (mse, .inl (g.2.1 0, 8, .inl fS)), (msp, .inr (9, [.ref am31, .ref am32, .ref am33, .ref am34, .ref am35, .int (nI 168), .int (nI ps35), .int (nI 31)])), (am31, .inl (g.2.1 2, 25, .inr (.inl f69))), (am32, .inl (g.2.1 2, 25, .inr (.inl f70))), (am33, .inl (g.2.1 2, 5, .inr (.inl f71))), (am34, .inl (g.2.1 2, 24, .inr (.inl f58))), (am35, .inl (g.2.1 0, 25, .inl f59))] ++ pl) := hD
          have hq37 : ps35 ≤ 168 := hq37
          refine W.widen (k := 0) (n := 0) (by omega) (by omega) ?_
          refine lv_aload_n hx hb dM_hash_137 rfl (lv_at hl 0 rfl) ?_
          refine lv_iconst (v := nI 0) hx hb dM_hash_138 (by decide) ?_
          refine va_put (D := g.1) (ci := 8) (v := .int (nI 0)) (ty := .int) (C := "LatticeKeysModel") (T := T_M) (N := 14) hx hb hts (wg_ft i_M) ty_M k_M n_M hown hK hP hD hS 0 rfl rfl 1 (by decide) (hts _ (wg_t kw_1527)) (fun _ h9 => h9) rfl (by decide +kernel) rfl rfl (Nat.le_of_ble_eq_true rfl) dM_hash_139 (fun H locs hP hD hS => ?_)
          have hP : va_P g.1 vcl ([(h0, .inr (8, [.int (nI 0), .int (nI 0), .int (nI z23), .int (nI ks), .ref mt, .ref mr_, .ref mk, .ref mo, .ref mh, .ref mse, .ref mhs, .ref msp, .ref msc, .ref mha])), (mse, .inl (g.2.1 0, 8, .inl fS)), (msp, .inr (9, [.ref am31, .ref am32, .ref am33, .ref am34, .ref am35, .int (nI 168), .int (nI ps35), .int (nI 31)])), (am31, .inl (g.2.1 2, 25, .inr (.inl f69))), (am32, .inl (g.2.1 2, 25, .inr (.inl f70))), (am33, .inl (g.2.1 2, 5, .inr (.inl f71))), (am34, .inl (g.2.1 2, 24, .inr (.inl f58))), (am35, .inl (g.2.1 0, 25, .inl f59))] ++ pl) _ := hP
          have hD : va_D _ ([(h0, .inr (8, [.int (nI 0), .int (nI 0), .int (nI z23), .int (nI ks), .ref mt, .ref mr_, .ref mk, .ref mo, .ref mh, .ref mse, .ref mhs, .ref msp, .ref msc, .ref mha])), (mse, .inl (g.2.1 0, 8, .inl fS)), (msp, .inr (9, [.ref am31, .ref am32, .ref am33, .ref am34, .ref am35, .int (nI 168), .int (nI ps35), .int (nI 31)])), (am31, .inl (g.2.1 2, 25, .inr (.inl f69))), (am32, .inl (g.2.1 2, 25, .inr (.inl f70))), (am33, .inl (g.2.1 2, 5, .inr (.inl f71))), (am34, .inl (g.2.1 2, 24, .inr (.inl f58))), (am35, .inl (g.2.1 0, 25, .inl f59))] ++ pl) := hD
          refine lv_aload_n hx hb dM_hash_142 rfl (lv_at hl 0 rfl) ?_
          refine va_get (D := g.1) (ci := 8) (C := "LatticeKeysModel") (T := T_M) (N := 14) hx hb hts (wg_ft i_M) hown hK hP 0 rfl rfl 2 (by decide) (hts _ (wg_t kw_1528)) (fun _ h9 => h9) rfl dM_hash_143 ?_
          have hO := close1 (e := .inl (g.2.1 0, 25, .inl f59)) hO km35 ⟨_, rfl⟩
          have hO := close1 (e := .inl (g.2.1 2, 24, .inr (.inl f58))) hO km34 ⟨_, rfl⟩
          have hO := close1 (e := .inl (g.2.1 2, 5, .inr (.inl f71))) hO km33 ⟨_, rfl⟩
          have hO := close1 (e := .inl (g.2.1 2, 25, .inr (.inl f70))) hO km32 ⟨_, rfl⟩
          have hO := close1 (e := .inl (g.2.1 2, 25, .inr (.inl f69))) hO km31 ⟨_, rfl⟩
          have hO := close1 (e := .inr (9, [.ref am31, .ref am32, .ref am33, .ref am34, .ref am35, .int (nI 168), .int (nI ps35), .int (nI 31)])) hO k_msp ⟨_, _, _, _, _, _, _, _, rfl, km31, km32, km33, km34, km35, by omega, by omega, by omega⟩
          have hO : okx g T [] ((msp, .inr (9, [.ref am31, .ref am32, .ref am33, .ref am34, .ref am35, .int (nI 168), .int (nI ps35), .int (nI 31)])) :: (am31, .inl (g.2.1 2, 25, .inr (.inl f69))) :: (am32, .inl (g.2.1 2, 25, .inr (.inl f70))) :: (am33, .inl (g.2.1 2, 5, .inr (.inl f71))) :: (am34, .inl (g.2.1 2, 24, .inr (.inl f58))) :: (am35, .inl (g.2.1 0, 25, .inl f59)) :: pl) := hO
          have hP : va_P g.1 vcl ([(h0, .inr (8, [.int (nI 0), .int (nI 0), .int (nI z23), .int (nI ks), .ref mt, .ref mr_, .ref mk, .ref mo, .ref mh, .ref mse, .ref mhs, .ref msp, .ref msc, .ref mha])), (mse, .inl (g.2.1 0, 8, .inl fS))] ++ ((msp, .inr (9, [.ref am31, .ref am32, .ref am33, .ref am34, .ref am35, .int (nI 168), .int (nI ps35), .int (nI 31)])) :: (am31, .inl (g.2.1 2, 25, .inr (.inl f69))) :: (am32, .inl (g.2.1 2, 25, .inr (.inl f70))) :: (am33, .inl (g.2.1 2, 5, .inr (.inl f71))) :: (am34, .inl (g.2.1 2, 24, .inr (.inl f58))) :: (am35, .inl (g.2.1 0, 25, .inl f59)) :: pl)) _ := hP
          have hD : va_D _ ([(h0, .inr (8, [.int (nI 0), .int (nI 0), .int (nI z23), .int (nI ks), .ref mt, .ref mr_, .ref mk, .ref mo, .ref mh, .ref mse, .ref mhs, .ref msp, .ref msc, .ref mha])), (mse, .inl (g.2.1 0, 8, .inl fS))] ++ ((msp, .inr (9, [.ref am31, .ref am32, .ref am33, .ref am34, .ref am35, .int (nI 168), .int (nI ps35), .int (nI 31)])) :: (am31, .inl (g.2.1 2, 25, .inr (.inl f69))) :: (am32, .inl (g.2.1 2, 25, .inr (.inl f70))) :: (am33, .inl (g.2.1 2, 5, .inr (.inl f71))) :: (am34, .inl (g.2.1 2, 24, .inr (.inl f58))) :: (am35, .inl (g.2.1 0, 25, .inl f59)) :: pl)) := hD
          generalize ((msp, .inr (9, [.ref am31, .ref am32, .ref am33, .ref am34, .ref am35, .int (nI 168), .int (nI ps35), .int (nI 31)])) :: (am31, .inl (g.2.1 2, 25, .inr (.inl f69))) :: (am32, .inl (g.2.1 2, 25, .inr (.inl f70))) :: (am33, .inl (g.2.1 2, 5, .inr (.inl f71))) :: (am34, .inl (g.2.1 2, 24, .inr (.inl f58))) :: (am35, .inl (g.2.1 0, 25, .inl f59)) :: pl) = pl at hO hP hD
          exact mp_iret hx hb hr hlk hP hD hS ((nI 0, 0, z23, ks, fS), pl) ⟨⟨(by show 0 ≤ 16384; omega), (by show z23 ≤ 8192; omega), (by show ks ≤ 8; omega), hS5, (by rw [hv2 (by omega)]), (fun _ => by rw [hv2 (by omega)])⟩, hO⟩ [0, 1] rfl rfl rfl (by omega) (by omega) dM_hash_146
        · refine lv_aload_n hx hb dM_hash_25 rfl (lv_at hl 0 rfl) ?_
          refine lv_iconst (v := nI 1) hx hb dM_hash_26 (by decide) ?_
          refine mp_i (cx := [(h0, .inr (8, [.int (nI 0), .int (nI tp), .int (nI rs), .int (nI ks), .ref mt, .ref mr_, .ref mk, .ref mo, .ref mh, .ref mse, .ref mhs, .ref msp, .ref msc, .ref mha])), (mse, .inl (g.2.1 0, 8, .inl fS))]) (wr := []) hP hD hS hA [0, 1] [] rfl rfl rfl (by decide) (va_runV (As := [.int (nI 1)]) (rest := []) F (t_M_fail l g _ T  pl hO hU  (nI 1) h0 mt mr_ mk mo mh mse mhs msp msc mha tp rs ks (nI 0) fS k_mt k_mr_ k_mk k_mo k_mh k_mhs k_msp k_msc k_mha (by omega) hS5) (cwV 1 hts (wg_app (wg_c kw_1577 (wg_c kw_1579 (wg_c ks_50 (wg_c kw_9 wg_n)))) kw_1580) rfl rfl rfl (by decide +kernel) ⟨by decide, by decide⟩) (pp_V (en_ok g) (q0 := 0) hK hP hD hS hA hE [0, 1] rfl rfl rfl rfl) rfl rfl hl.1 rfl (lv_room (Nat.le_of_ble_eq_true rfl)) dM_hash_27 ⟨by omega, by omega⟩) (fun r26 u55 H locs hu38 hP hD hS => ?_)
          obtain ⟨u56, pl⟩ := u55
          obtain ⟨hq38, hO⟩ := hu38
          obtain ⟨th26, tp26, rs26, ks26, fS26⟩ := u56
          have hP : va_P g.1 vcl ([(h0, .inr (8, [.int th26, .int (nI tp26), .int (nI rs26), .int (nI ks26), .ref mt, .ref mr_, .ref mk, .ref mo, .ref mh, .ref mse, .ref mhs, .ref msp, .ref msc, .ref mha])), (mse, .inl (g.2.1 0, 8, .inl fS26))] ++ pl) _ := hP
          have hD : va_D _ ([(h0, .inr (8, [.int th26, .int (nI tp26), .int (nI rs26), .int (nI ks26), .ref mt, .ref mr_, .ref mk, .ref mo, .ref mh, .ref mse, .ref mhs, .ref msp, .ref msc, .ref mha])), (mse, .inl (g.2.1 0, 8, .inl fS26))] ++ pl) := hD
          obtain ⟨-, -, -, hm49, hm50⟩ := hq38
          obtain ⟨he46, he47, he48, he49, he50⟩ := hm50
          have he46 : th26 = nI 1 := he46
          have he47 : tp26 = tp := he47
          have he48 : rs26 = rs := he48
          have he49 : ks26 = ks := he49
          obtain rfl := he50
          refine W.widen (k := 0) (n := 0) (by omega) (by omega) ?_
          exact mp_iret hx hb hr hlk hP hD hS ((th26, tp26, rs26, ks26, fS26), pl) ⟨⟨(by show tp26 ≤ 16384; omega), (by show rs26 ≤ 8192; omega), (by show ks26 ≤ 8; omega), hm49, (by rw [hval_bad (Or.inr (Or.inr (Or.inr (Int32.not_le.mp h40))))]; exact he46), (fun h9 => absurd (show nI 1 = nI 0 from he46.symm.trans h9) (by decide))⟩, hO⟩ [0, 1] rfl rfl rfl (by omega) (by omega) dM_hash_30
    | 3, _ =>
      refine lv_iload_n hx hb dM_hash_5 rfl (lv_at hl 1 rfl) ?_
      refine lv_if_lt (tgt := 25) hx hb dM_hash_6 (by decide) (fun h46 => absurd h46 (by decide)) (fun h46 => ?_)
      refine lv_iload_n hx hb dM_hash_9 rfl (lv_at hl 1 rfl) ?_
      refine lv_iconst (v := nI 3) hx hb dM_hash_10 (by decide) ?_
      refine mi_gt (tgt := 25) hx hb dM_hash_11 (by decide) (by omega) (by omega) (fun h47 => absurd h47 (by omega)) (fun h47 => ?_)
      refine lv_iload_n hx hb dM_hash_14 rfl (lv_at hl 2 rfl) ?_
      refine lv_if_lt (tgt := 25) hx hb dM_hash_15 (by decide) (fun h48 => ?_) (fun h48 => ?_)
      · refine lv_aload_n hx hb dM_hash_25 rfl (lv_at hl 0 rfl) ?_
        refine lv_iconst (v := nI 1) hx hb dM_hash_26 (by decide) ?_
        refine mp_i (cx := [(h0, .inr (8, [.int (nI 0), .int (nI tp), .int (nI rs), .int (nI ks), .ref mt, .ref mr_, .ref mk, .ref mo, .ref mh, .ref mse, .ref mhs, .ref msp, .ref msc, .ref mha])), (mse, .inl (g.2.1 0, 8, .inl fS))]) (wr := []) hP hD hS hA [0, 1] [] rfl rfl rfl (by decide) (va_runV (As := [.int (nI 1)]) (rest := []) F (t_M_fail l g _ T  pl hO hU  (nI 1) h0 mt mr_ mk mo mh mse mhs msp msc mha tp rs ks (nI 0) fS k_mt k_mr_ k_mk k_mo k_mh k_mhs k_msp k_msc k_mha (by omega) hS5) (cwV 1 hts (wg_app (wg_c kw_1577 (wg_c kw_1579 (wg_c ks_50 (wg_c kw_9 wg_n)))) kw_1580) rfl rfl rfl (by decide +kernel) ⟨by decide, by decide⟩) (pp_V (en_ok g) (q0 := 0) hK hP hD hS hA hE [0, 1] rfl rfl rfl rfl) rfl rfl hl.1 rfl (lv_room (Nat.le_of_ble_eq_true rfl)) dM_hash_27 ⟨by omega, by omega⟩) (fun r27 u57 H locs hu39 hP hD hS => ?_)
        obtain ⟨u58, pl⟩ := u57
        obtain ⟨hq39, hO⟩ := hu39
        obtain ⟨th27, tp27, rs27, ks27, fS27⟩ := u58
        have hP : va_P g.1 vcl ([(h0, .inr (8, [.int th27, .int (nI tp27), .int (nI rs27), .int (nI ks27), .ref mt, .ref mr_, .ref mk, .ref mo, .ref mh, .ref mse, .ref mhs, .ref msp, .ref msc, .ref mha])), (mse, .inl (g.2.1 0, 8, .inl fS27))] ++ pl) _ := hP
        have hD : va_D _ ([(h0, .inr (8, [.int th27, .int (nI tp27), .int (nI rs27), .int (nI ks27), .ref mt, .ref mr_, .ref mk, .ref mo, .ref mh, .ref mse, .ref mhs, .ref msp, .ref msc, .ref mha])), (mse, .inl (g.2.1 0, 8, .inl fS27))] ++ pl) := hD
        obtain ⟨-, -, -, hm54, hm55⟩ := hq39
        obtain ⟨he51, he52, he53, he54, he55⟩ := hm55
        have he51 : th27 = nI 1 := he51
        have he52 : tp27 = tp := he52
        have he53 : rs27 = rs := he53
        have he54 : ks27 = ks := he54
        obtain rfl := he55
        refine W.widen (k := 0) (n := 0) (by omega) (by omega) ?_
        exact mp_iret hx hb hr hlk hP hD hS ((th27, tp27, rs27, ks27, fS27), pl) ⟨⟨(by show tp27 ≤ 16384; omega), (by show rs27 ≤ 8192; omega), (by show ks27 ≤ 8; omega), hm54, (by rw [hval_bad (Or.inr (Or.inr (Or.inl h48)))]; exact he51), (fun h9 => absurd (show nI 1 = nI 0 from he51.symm.trans h9) (by decide))⟩, hO⟩ [0, 1] rfl rfl rfl (by omega) (by omega) dM_hash_30
      · refine lv_iload_n hx hb dM_hash_18 rfl (lv_at hl 2 rfl) ?_
        refine lv_sipush (v := nI 8192) hx hb dM_hash_19 (by decide) ?_
        refine lv_icmp_le (tgt := 31) hx hb dM_hash_22 (by decide) (fun h49 => ?_) (fun h49 => ?_)
        · obtain ⟨z24, hz24, rfl⟩ := i32_le h48 (by omega) h49
          refine lv_aload_n hx hb dM_hash_31 rfl (lv_at hl 0 rfl) ?_
          refine va_get (D := g.1) (ci := 8) (C := "LatticeKeysModel") (T := T_M) (N := 14) hx hb hts (wg_ft i_M) hown hK hP 0 rfl rfl 11 (by decide) (hts _ (wg_t kw_1537)) (fun _ h9 => h9) rfl dM_hash_32 ?_
          refine lv_iload_n hx hb dM_hash_35 rfl (lv_at hl 1 rfl) ?_
          refine lv_iconst (v := nI 1) hx hb dM_hash_36 (by decide) ?_
          refine mi_ne (tgt := 45) hx hb dM_hash_37 (by decide) (by omega) (by omega) (fun h50 => ?_) (fun h50 => absurd h50 (by omega))
          refine lv_iload_n hx hb dM_hash_45 rfl (lv_at hl 1 rfl) ?_
          refine lv_iconst (v := nI 2) hx hb dM_hash_46 (by decide) ?_
          refine mi_ne (tgt := 56) hx hb dM_hash_47 (by decide) (by omega) (by omega) (fun h51 => ?_) (fun h51 => absurd h51 (by omega))
          refine lv_sipush (v := nI 136) hx hb dM_hash_56 (by decide) ?_
          refine lv_iload_n hx hb dM_hash_59 rfl (lv_at hl 1 rfl) ?_
          refine lv_iconst (v := nI 2) hx hb dM_hash_60 (by decide) ?_
          refine mi_ge (tgt := 69) hx hb dM_hash_61 (by decide) (by omega) (by omega) (fun h52 => ?_) (fun h52 => absurd h52 (by omega))
          refine lv_bipush (v := nI 31) hx hb dM_hash_69 (by decide) ?_
          obtain ⟨e39, pl, hP, hD, hk39, hO⟩ := open1 hP hD hO k_msp (nxg clo_nil k_msp rfl)
          obtain ⟨am36, am37, am38, am39, am40, rt24, ps36, x24, rfl, km36, km37, km38, km39, km40, hr30, hr31, hr32⟩ := hk39
          obtain ⟨e40, pl, hP, hD, hk40, hO⟩ := open1 hP hD hO km36 (nmc (knd_ne km36 k_msp (by decide)) (nxg clo_nil km36 rfl))
          obtain ⟨f72, rfl⟩ := hk40
          obtain ⟨e41, pl, hP, hD, hk41, hO⟩ := open1 hP hD hO km37 (nmc (knd_ne km37 km36 (by decide)) (nmc (knd_ne km37 k_msp (by decide)) (nxg clo_nil km37 rfl)))
          obtain ⟨f73, rfl⟩ := hk41
          obtain ⟨e42, pl, hP, hD, hk42, hO⟩ := open1 hP hD hO km38 (nmc (knd_ne km38 km37 (by decide)) (nmc (knd_ne km38 km36 (by decide)) (nmc (knd_ne km38 k_msp (by decide)) (nxg clo_nil km38 rfl))))
          obtain ⟨f74, rfl⟩ := hk42
          obtain ⟨e43, pl, hP, hD, hk43, hO⟩ := open1 hP hD hO km39 (nmc (knd_ne km39 km38 (by decide)) (nmc (knd_ne km39 km37 (by decide)) (nmc (knd_ne km39 km36 (by decide)) (nmc (knd_ne km39 k_msp (by decide)) (nxg clo_nil km39 rfl)))))
          obtain ⟨f75, rfl⟩ := hk43
          obtain ⟨e44, pl, hP, hD, hk44, hO⟩ := open1 hP hD hO km40 (nmc (knd_ne km40 km39 (by decide)) (nmc (knd_ne km40 km38 (by decide)) (nmc (knd_ne km40 km37 (by decide)) (nmc (knd_ne km40 km36 (by decide)) (nmc (knd_ne km40 k_msp (by decide)) (nxg clo_nil km40 rfl))))))
          obtain ⟨f76, rfl⟩ := hk44
          have hP : va_P g.1 vcl ([(h0, .inr (8, [.int (nI 0), .int (nI tp), .int (nI rs), .int (nI ks), .ref mt, .ref mr_, .ref mk, .ref mo, .ref mh, .ref mse, .ref mhs, .ref msp, .ref msc, .ref mha])), (mse, .inl (g.2.1 0, 8, .inl fS)), (msp, .inr (9, [.ref am36, .ref am37, .ref am38, .ref am39, .ref am40, .int (nI rt24), .int (nI ps36), .int x24])), (am36, .inl (g.2.1 2, 25, .inr (.inl f72))), (am37, .inl (g.2.1 2, 25, .inr (.inl f73))), (am38, .inl (g.2.1 2, 5, .inr (.inl f74))), (am39, .inl (g.2.1 2, 24, .inr (.inl f75))), (am40, .inl (g.2.1 0, 25, .inl f76))] ++ pl) _ := hP
          have hD : va_D _ ([(h0, .inr (8, [.int (nI 0), .int (nI tp), .int (nI rs), .int (nI ks), .ref mt, .ref mr_, .ref mk, .ref mo, .ref mh, .ref mse, .ref mhs, .ref msp, .ref msc, .ref mha])), (mse, .inl (g.2.1 0, 8, .inl fS)), (msp, .inr (9, [.ref am36, .ref am37, .ref am38, .ref am39, .ref am40, .int (nI rt24), .int (nI ps36), .int x24])), (am36, .inl (g.2.1 2, 25, .inr (.inl f72))), (am37, .inl (g.2.1 2, 25, .inr (.inl f73))), (am38, .inl (g.2.1 2, 5, .inr (.inl f74))), (am39, .inl (g.2.1 2, 24, .inr (.inl f75))), (am40, .inl (g.2.1 0, 25, .inl f76))] ++ pl) := hD
          refine mp_v (cx := [(msp, .inr (9, [.ref am36, .ref am37, .ref am38, .ref am39, .ref am40, .int (nI rt24), .int (nI ps36), .int x24])), (am36, .inl (g.2.1 2, 25, .inr (.inl f72))), (am37, .inl (g.2.1 2, 25, .inr (.inl f73))), (am38, .inl (g.2.1 2, 5, .inr (.inl f74))), (am39, .inl (g.2.1 2, 24, .inr (.inl f75))), (am40, .inl (g.2.1 0, 25, .inl f76))]) (wr := [(h0, .inr (8, [.int (nI 0), .int (nI tp), .int (nI rs), .int (nI ks), .ref mt, .ref mr_, .ref mk, .ref mo, .ref mh, .ref mse, .ref mhs, .ref msp, .ref msc, .ref mha])), (mse, .inl (g.2.1 0, 8, .inl fS))]) hP hD hS hA [2, 3, 4, 5, 6, 7] [0, 1] rfl rfl rfl (by decide) (va_runV (As := [.int (nI 136), .int (nI 31)]) (rest := []) F (t_MS_begin l g _ T (am40 :: (am39 :: (am38 :: (am37 :: (am36 :: (msp :: [])))))) pl hO hU  136 (nI 31) msp am36 am37 am38 am39 am40 rt24 ps36 x24 f72 f73 f74 f75 f76 (by omega)) (cwV 2 hts (wg_app (wg_c kw_1938 (wg_c kw_1608 (wg_c kw_1609 (wg_c kw_10 wg_n)))) kw_1610) rfl rfl rfl (by decide +kernel) ⟨by decide, by decide⟩) (pp_V (en_ok g) (q0 := 2) hK hP hD hS hA hE [2, 3, 4, 5, 6, 7] rfl rfl rfl rfl) rfl rfl hl.1 rfl (lv_room (Nat.le_of_ble_eq_true rfl)) dM_hash_71 ⟨by omega, by omega⟩) (fun  u59 H locs hu40 hP hD hS => ?_)
          obtain ⟨u60, pl⟩ := u59
          obtain ⟨hq40, hO⟩ := hu40
          obtain ⟨ps37, f77, f78, f79⟩ := u60
          have hP : va_P g.1 vcl ([(h0, .inr (8, [.int (nI 0), .int (nI tp), .int (nI rs), .int (nI ks), .ref mt, .ref mr_, .ref mk, .ref mo, .ref mh, .ref mse, .ref mhs, .ref msp, .ref msc, .ref mha])), (mse, .inl (g.2.1 0, 8, .inl fS)), (msp, .inr (9, [.ref am36, .ref am37, .ref am38, .ref am39, .ref am40, .int (nI 136), .int (nI ps37), .int (nI 31)])), (am36, .inl (g.2.1 2, 25, .inr (.inl f77))), (am37, .inl (g.2.1 2, 25, .inr (.inl f78))), (am38, .inl (g.2.1 2, 5, .inr (.inl f79))), (am39, .inl (g.2.1 2, 24, .inr (.inl f75))), (am40, .inl (g.2.1 0, 25, .inl f76))] ++ pl) _ := hP
          have hD : va_D _ ([(h0, .inr (8, [.int (nI 0), .int (nI tp), .int (nI rs), .int (nI ks), .ref mt, .ref mr_, .ref mk, .ref mo, .ref mh, .ref mse, .ref mhs, .ref msp, .ref msc, .ref mha])), (mse, .inl (g.2.1 0, 8, .inl fS)), (msp, .inr (9, [.ref am36, .ref am37, .ref am38, .ref am39, .ref am40, .int (nI 136), .int (nI ps37), .int (nI 31)])), (am36, .inl (g.2.1 2, 25, .inr (.inl f77))), (am37, .inl (g.2.1 2, 25, .inr (.inl f78))), (am38, .inl (g.2.1 2, 5, .inr (.inl f79))), (am39, .inl (g.2.1 2, 24, .inr (.inl f75))), (am40, .inl (g.2.1 0, 25, .inl f76))] ++ pl) := hD
          have hq40 : ps37 ≤ 136 := hq40
          refine W.widen (k := 0) (n := 0) (by omega) (by omega) ?_
          refine lv_aload_n hx hb dM_hash_74 rfl (lv_at hl 0 rfl) ?_
          refine va_get (D := g.1) (ci := 8) (C := "LatticeKeysModel") (T := T_M) (N := 14) hx hb hts (wg_ft i_M) hown hK hP 0 rfl rfl 11 (by decide) (hts _ (wg_t kw_1537)) (fun _ h9 => h9) rfl dM_hash_75 ?_
          refine lv_aload_n hx hb dM_hash_78 rfl (lv_at hl 0 rfl) ?_
          refine va_get (D := g.1) (ci := 8) (C := "LatticeKeysModel") (T := T_M) (N := 14) hx hb hts (wg_ft i_M) hown hK hP 0 rfl rfl 4 (by decide) (hts _ (wg_t kw_1530)) (fun _ h9 => h9) rfl dM_hash_79 ?_
          refine lv_iconst (v := nI 0) hx hb dM_hash_82 (by decide) ?_
          refine lv_aload_n hx hb dM_hash_83 rfl (lv_at hl 0 rfl) ?_
          refine va_get (D := g.1) (ci := 8) (C := "LatticeKeysModel") (T := T_M) (N := 14) hx hb hts (wg_ft i_M) hown hK hP 0 rfl rfl 1 (by decide) (hts _ (wg_t kw_1527)) (fun _ h9 => h9) rfl dM_hash_84 ?_
          refine mp_v (cx := [(msp, .inr (9, [.ref am36, .ref am37, .ref am38, .ref am39, .ref am40, .int (nI 136), .int (nI ps37), .int (nI 31)])), (am36, .inl (g.2.1 2, 25, .inr (.inl f77))), (am37, .inl (g.2.1 2, 25, .inr (.inl f78))), (am38, .inl (g.2.1 2, 5, .inr (.inl f79))), (am39, .inl (g.2.1 2, 24, .inr (.inl f75))), (am40, .inl (g.2.1 0, 25, .inl f76))]) (wr := [(h0, .inr (8, [.int (nI 0), .int (nI tp), .int (nI rs), .int (nI ks), .ref mt, .ref mr_, .ref mk, .ref mo, .ref mh, .ref mse, .ref mhs, .ref msp, .ref msc, .ref mha])), (mse, .inl (g.2.1 0, 8, .inl fS))]) hP hD hS hA [2, 3, 4, 5, 6, 7] [0, 1] rfl rfl rfl (by decide) (va_runV (As := [.ref mt, .int (nI 0), .int (nI tp)]) (rest := []) F (t_MS_puts l g _ T (am40 :: (am39 :: (am38 :: (am37 :: (am36 :: (msp :: [])))))) pl hO hU (clo_cons (clo_cons (clo_cons (clo_cons (clo_cons (clo_cons clo_nil k_msp (by decide)) km36 (by decide)) km37 (by decide)) km38 (by decide)) km39 (by decide)) km40 (by decide)) mt 16384 0 tp msp am36 am37 am38 am39 am40 136 ps37 (nI 31) f77 f78 f79 f75 f76 k_mt (by omega) (by omega) (by omega) (by omega)) (cwV 3 hts (wg_app (wg_c kw_1939 (wg_c kw_1612 (wg_c kw_1613 (wg_c kw_10 wg_n)))) kw_1614) rfl rfl rfl (by decide +kernel) ⟨by decide, by decide⟩) (pp_V (en_ok g) (q0 := 2) hK hP hD hS hA hE [2, 3, 4, 5, 6, 7] rfl rfl rfl rfl) rfl rfl hl.1 rfl (lv_room (Nat.le_of_ble_eq_true rfl)) dM_hash_87 ⟨by omega, by omega⟩) (fun  u61 H locs hu41 hP hD hS => ?_)
          obtain ⟨u62, pl⟩ := u61
          obtain ⟨hq41, hO⟩ := hu41
          obtain ⟨ps38, f80, f81, f82⟩ := u62
          have hP : va_P g.1 vcl ([(h0, .inr (8, [.int (nI 0), .int (nI tp), .int (nI rs), .int (nI ks), .ref mt, .ref mr_, .ref mk, .ref mo, .ref mh, .ref mse, .ref mhs, .ref msp, .ref msc, .ref mha])), (mse, .inl (g.2.1 0, 8, .inl fS)), (msp, .inr (9, [.ref am36, .ref am37, .ref am38, .ref am39, .ref am40, .int (nI 136), .int (nI ps38), .int (nI 31)])), (am36, .inl (g.2.1 2, 25, .inr (.inl f80))), (am37, .inl (g.2.1 2, 25, .inr (.inl f81))), (am38, .inl (g.2.1 2, 5, .inr (.inl f82))), (am39, .inl (g.2.1 2, 24, .inr (.inl f75))), (am40, .inl (g.2.1 0, 25, .inl f76))] ++ pl) _ := hP
          have hD : va_D _ ([(h0, .inr (8, [.int (nI 0), .int (nI tp), .int (nI rs), .int (nI ks), .ref mt, .ref mr_, .ref mk, .ref mo, .ref mh, .ref mse, .ref mhs, .ref msp, .ref msc, .ref mha])), (mse, .inl (g.2.1 0, 8, .inl fS)), (msp, .inr (9, [.ref am36, .ref am37, .ref am38, .ref am39, .ref am40, .int (nI 136), .int (nI ps38), .int (nI 31)])), (am36, .inl (g.2.1 2, 25, .inr (.inl f80))), (am37, .inl (g.2.1 2, 25, .inr (.inl f81))), (am38, .inl (g.2.1 2, 5, .inr (.inl f82))), (am39, .inl (g.2.1 2, 24, .inr (.inl f75))), (am40, .inl (g.2.1 0, 25, .inl f76))] ++ pl) := hD
          have hq41 : ps38 ≤ 136 := hq41
          refine W.widen (k := 0) (n := 0) (by omega) (by omega) ?_
          refine lv_aload_n hx hb dM_hash_90 rfl (lv_at hl 0 rfl) ?_
          refine va_get (D := g.1) (ci := 8) (C := "LatticeKeysModel") (T := T_M) (N := 14) hx hb hts (wg_ft i_M) hown hK hP 0 rfl rfl 11 (by decide) (hts _ (wg_t kw_1537)) (fun _ h9 => h9) rfl dM_hash_91 ?_
          refine mp_v (cx := [(msp, .inr (9, [.ref am36, .ref am37, .ref am38, .ref am39, .ref am40, .int (nI 136), .int (nI ps38), .int (nI 31)])), (am36, .inl (g.2.1 2, 25, .inr (.inl f80))), (am37, .inl (g.2.1 2, 25, .inr (.inl f81))), (am38, .inl (g.2.1 2, 5, .inr (.inl f82))), (am39, .inl (g.2.1 2, 24, .inr (.inl f75))), (am40, .inl (g.2.1 0, 25, .inl f76))]) (wr := [(h0, .inr (8, [.int (nI 0), .int (nI tp), .int (nI rs), .int (nI ks), .ref mt, .ref mr_, .ref mk, .ref mo, .ref mh, .ref mse, .ref mhs, .ref msp, .ref msc, .ref mha])), (mse, .inl (g.2.1 0, 8, .inl fS))]) hP hD hS hA [2, 3, 4, 5, 6, 7] [0, 1] rfl rfl rfl (by decide) (va_runV (As := []) (rest := []) F (t_MS_end l g _ T (am40 :: (am39 :: (am38 :: (am37 :: (am36 :: (msp :: [])))))) pl hO hU  msp am36 am37 am38 am39 am40 136 ps38 (nI 31) f80 f81 f82 f75 f76 (by omega) (by omega)) (cwV 0 hts (wg_app (wg_c kw_1940 (wg_c kw_1634 (wg_c kw_1635 (wg_c kw_10 wg_n)))) kw_1636) rfl rfl rfl (by decide +kernel) ⟨by decide, by decide⟩) (pp_V (en_ok g) (q0 := 2) hK hP hD hS hA hE [2, 3, 4, 5, 6, 7] rfl rfl rfl rfl) rfl rfl hl.1 rfl (lv_room (Nat.le_of_ble_eq_true rfl)) dM_hash_94 ⟨by omega, by omega⟩) (fun  u63 H locs hu42 hP hD hS => ?_)
          obtain ⟨u64, pl⟩ := u63
          obtain ⟨hq42, hO⟩ := hu42
          obtain ⟨ps39, f83, f84, f85⟩ := u64
          have hP : va_P g.1 vcl ([(h0, .inr (8, [.int (nI 0), .int (nI tp), .int (nI rs), .int (nI ks), .ref mt, .ref mr_, .ref mk, .ref mo, .ref mh, .ref mse, .ref mhs, .ref msp, .ref msc, .ref mha])), (mse, .inl (g.2.1 0, 8, .inl fS)), (msp, .inr (9, [.ref am36, .ref am37, .ref am38, .ref am39, .ref am40, .int (nI 136), .int (nI ps39), .int (nI 31)])), (am36, .inl (g.2.1 2, 25, .inr (.inl f83))), (am37, .inl (g.2.1 2, 25, .inr (.inl f84))), (am38, .inl (g.2.1 2, 5, .inr (.inl f85))), (am39, .inl (g.2.1 2, 24, .inr (.inl f75))), (am40, .inl (g.2.1 0, 25, .inl f76))] ++ pl) _ := hP
          have hD : va_D _ ([(h0, .inr (8, [.int (nI 0), .int (nI tp), .int (nI rs), .int (nI ks), .ref mt, .ref mr_, .ref mk, .ref mo, .ref mh, .ref mse, .ref mhs, .ref msp, .ref msc, .ref mha])), (mse, .inl (g.2.1 0, 8, .inl fS)), (msp, .inr (9, [.ref am36, .ref am37, .ref am38, .ref am39, .ref am40, .int (nI 136), .int (nI ps39), .int (nI 31)])), (am36, .inl (g.2.1 2, 25, .inr (.inl f83))), (am37, .inl (g.2.1 2, 25, .inr (.inl f84))), (am38, .inl (g.2.1 2, 5, .inr (.inl f85))), (am39, .inl (g.2.1 2, 24, .inr (.inl f75))), (am40, .inl (g.2.1 0, 25, .inl f76))] ++ pl) := hD
          have hq42 : ps39 ≤ 136 := hq42
          refine W.widen (k := 0) (n := 0) (by omega) (by omega) ?_
          refine lv_aload_n hx hb dM_hash_97 rfl (lv_at hl 0 rfl) ?_
          refine lv_iload_n hx hb dM_hash_98 rfl (lv_at hl 1 rfl) ?_
          refine lv_if_ne (tgt := 107) hx hb dM_hash_99 (by decide) (fun h53 => ?_) (fun h53 => absurd h53 (by decide))
          refine lv_iload_n hx hb dM_hash_107 rfl (lv_at hl 1 rfl) ?_
          refine lv_iconst (v := nI 1) hx hb dM_hash_108 (by decide) ?_
          refine mi_ne (tgt := 117) hx hb dM_hash_109 (by decide) (by omega) (by omega) (fun h54 => ?_) (fun h54 => absurd h54 (by omega))
          refine lv_iload_n hx hb dM_hash_117 rfl (lv_at hl 2 rfl) ?_
          refine va_put (D := g.1) (ci := 8) (v := .int (nI z24)) (ty := .int) (C := "LatticeKeysModel") (T := T_M) (N := 14) hx hb hts (wg_ft i_M) ty_M k_M n_M hown hK hP hD hS 0 rfl rfl 2 (by decide) (hts _ (wg_t kw_1528)) (fun _ h9 => h9) rfl (by decide +kernel) rfl rfl (Nat.le_of_ble_eq_true rfl) dM_hash_118 (fun H locs hP hD hS => ?_)
          have hP : va_P g.1 vcl ([(h0, .inr (8, [.int (nI 0), .int (nI tp), .int (nI z24), .int (nI ks), .ref mt, .ref mr_, .ref mk, .ref mo, .ref mh, .ref mse, .ref mhs, .ref msp, .ref msc, .ref mha])), (mse, .inl (g.2.1 0, 8, .inl fS)), (msp, .inr (9, [.ref am36, .ref am37, .ref am38, .ref am39, .ref am40, .int (nI 136), .int (nI ps39), .int (nI 31)])), (am36, .inl (g.2.1 2, 25, .inr (.inl f83))), (am37, .inl (g.2.1 2, 25, .inr (.inl f84))), (am38, .inl (g.2.1 2, 5, .inr (.inl f85))), (am39, .inl (g.2.1 2, 24, .inr (.inl f75))), (am40, .inl (g.2.1 0, 25, .inl f76))] ++ pl) _ := hP
          have hD : va_D _ ([(h0, .inr (8, [.int (nI 0), .int (nI tp), .int (nI z24), .int (nI ks), .ref mt, .ref mr_, .ref mk, .ref mo, .ref mh, .ref mse, .ref mhs, .ref msp, .ref msc, .ref mha])), (mse, .inl (g.2.1 0, 8, .inl fS)), (msp, .inr (9, [.ref am36, .ref am37, .ref am38, .ref am39, .ref am40, .int (nI 136), .int (nI ps39), .int (nI 31)])), (am36, .inl (g.2.1 2, 25, .inr (.inl f83))), (am37, .inl (g.2.1 2, 25, .inr (.inl f84))), (am38, .inl (g.2.1 2, 5, .inr (.inl f85))), (am39, .inl (g.2.1 2, 24, .inr (.inl f75))), (am40, .inl (g.2.1 0, 25, .inl f76))] ++ pl) := hD
          refine lv_aload_n hx hb dM_hash_121 rfl (lv_at hl 0 rfl) ?_
          refine va_get (D := g.1) (ci := 8) (C := "LatticeKeysModel") (T := T_M) (N := 14) hx hb hts (wg_ft i_M) hown hK hP 0 rfl rfl 11 (by decide) (hts _ (wg_t kw_1537)) (fun _ h9 => h9) rfl dM_hash_122 ?_
          refine lv_aload_n hx hb dM_hash_125 rfl (lv_at hl 0 rfl) ?_
          refine va_get (D := g.1) (ci := 8) (C := "LatticeKeysModel") (T := T_M) (N := 14) hx hb hts (wg_ft i_M) hown hK hP 0 rfl rfl 5 (by decide) (hts _ (wg_t kw_1531)) (fun _ h9 => h9) rfl dM_hash_126 ?_
          refine lv_iconst (v := nI 0) hx hb dM_hash_129 (by decide) ?_
          refine lv_aload_n hx hb dM_hash_130 rfl (lv_at hl 0 rfl) ?_
          refine va_get (D := g.1) (ci := 8) (C := "LatticeKeysModel") (T := T_M) (N := 14) hx hb hts (wg_ft i_M) hown hK hP 0 rfl rfl 2 (by decide) (hts _ (wg_t kw_1528)) (fun _ h9 => h9) rfl dM_hash_131 ?_
          refine mp_v (cx := [(msp, .inr (9, [.ref am36, .ref am37, .ref am38, .ref am39, .ref am40, .int (nI 136), .int (nI ps39), .int (nI 31)])), (am36, .inl (g.2.1 2, 25, .inr (.inl f83))), (am37, .inl (g.2.1 2, 25, .inr (.inl f84))), (am38, .inl (g.2.1 2, 5, .inr (.inl f85))), (am39, .inl (g.2.1 2, 24, .inr (.inl f75))), (am40, .inl (g.2.1 0, 25, .inl f76))]) (wr := [(h0, .inr (8, [.int (nI 0), .int (nI tp), .int (nI z24), .int (nI ks), .ref mt, .ref mr_, .ref mk, .ref mo, .ref mh, .ref mse, .ref mhs, .ref msp, .ref msc, .ref mha])), (mse, .inl (g.2.1 0, 8, .inl fS))]) hP hD hS hA [2, 3, 4, 5, 6, 7] [0, 1] rfl rfl rfl (by decide) (va_runV (As := [.ref mr_, .int (nI 0), .int (nI z24)]) (rest := []) F (t_MS_take l g _ T (am40 :: (am39 :: (am38 :: (am37 :: (am36 :: (msp :: [])))))) pl hO hU (clo_cons (clo_cons (clo_cons (clo_cons (clo_cons (clo_cons clo_nil k_msp (by decide)) km36 (by decide)) km37 (by decide)) km38 (by decide)) km39 (by decide)) km40 (by decide)) mr_ 8192 0 z24 msp am36 am37 am38 am39 am40 136 ps39 (nI 31) f83 f84 f85 f75 f76 k_mr_ (by omega) (by omega) (by omega) (by omega)) (cwV 3 hts (wg_app (wg_c kw_1941 (wg_c kw_1638 (wg_c kw_1639 (wg_c kw_10 wg_n)))) kw_1640) rfl rfl rfl (by decide +kernel) ⟨by decide, by decide⟩) (pp_V (en_ok g) (q0 := 2) hK hP hD hS hA hE [2, 3, 4, 5, 6, 7] rfl rfl rfl rfl) rfl rfl hl.1 rfl (lv_room (Nat.le_of_ble_eq_true rfl)) dM_hash_134 ⟨by omega, by omega⟩) (fun  u65 H locs hu43 hP hD hS => ?_)
          obtain ⟨u66, pl⟩ := u65
          obtain ⟨hq43, hO⟩ := hu43
          obtain ⟨ps40, f86, f87, f88⟩ := u66
          have hP : va_P g.1 vcl ([(h0, .inr (8, [.int (nI 0), .int (nI tp), .int (nI z24), .int (nI ks), .ref mt, .ref mr_, .ref mk, .ref mo, .ref mh, .ref mse, .ref mhs, .ref msp, .ref msc, .ref mha])), (mse, .inl (g.2.1 0, 8, .inl fS)), (msp, .inr (9, [.ref am36, .ref am37, .ref am38, .ref am39, .ref am40, .int (nI 136), .int (nI ps40), .int (nI 31)])), (am36, .inl (g.2.1 2, 25, .inr (.inl f86))), (am37, .inl (g.2.1 2, 25, .inr (.inl f87))), (am38, .inl (g.2.1 2, 5, .inr (.inl f88))), (am39, .inl (g.2.1 2, 24, .inr (.inl f75))), (am40, .inl (g.2.1 0, 25, .inl f76))] ++ pl) _ := hP
          have hD : va_D _ ([(h0, .inr (8, [.int (nI 0), .int (nI tp), .int (nI z24), .int (nI ks), .ref mt, .ref mr_, .ref mk, .ref mo, .ref mh, .ref mse, .ref mhs, .ref msp, .ref msc, .ref mha])), (mse, .inl (g.2.1 0, 8, .inl fS)), (msp, .inr (9, [.ref am36, .ref am37, .ref am38, .ref am39, .ref am40, .int (nI 136), .int (nI ps40), .int (nI 31)])), (am36, .inl (g.2.1 2, 25, .inr (.inl f86))), (am37, .inl (g.2.1 2, 25, .inr (.inl f87))), (am38, .inl (g.2.1 2, 5, .inr (.inl f88))), (am39, .inl (g.2.1 2, 24, .inr (.inl f75))), (am40, .inl (g.2.1 0, 25, .inl f76))] ++ pl) := hD
          have hq43 : ps40 ≤ 136 := hq43
          refine W.widen (k := 0) (n := 0) (by omega) (by omega) ?_
          refine lv_aload_n hx hb dM_hash_137 rfl (lv_at hl 0 rfl) ?_
          refine lv_iconst (v := nI 0) hx hb dM_hash_138 (by decide) ?_
          refine va_put (D := g.1) (ci := 8) (v := .int (nI 0)) (ty := .int) (C := "LatticeKeysModel") (T := T_M) (N := 14) hx hb hts (wg_ft i_M) ty_M k_M n_M hown hK hP hD hS 0 rfl rfl 1 (by decide) (hts _ (wg_t kw_1527)) (fun _ h9 => h9) rfl (by decide +kernel) rfl rfl (Nat.le_of_ble_eq_true rfl) dM_hash_139 (fun H locs hP hD hS => ?_)
          have hP : va_P g.1 vcl ([(h0, .inr (8, [.int (nI 0), .int (nI 0), .int (nI z24), .int (nI ks), .ref mt, .ref mr_, .ref mk, .ref mo, .ref mh, .ref mse, .ref mhs, .ref msp, .ref msc, .ref mha])), (mse, .inl (g.2.1 0, 8, .inl fS)), (msp, .inr (9, [.ref am36, .ref am37, .ref am38, .ref am39, .ref am40, .int (nI 136), .int (nI ps40), .int (nI 31)])), (am36, .inl (g.2.1 2, 25, .inr (.inl f86))), (am37, .inl (g.2.1 2, 25, .inr (.inl f87))), (am38, .inl (g.2.1 2, 5, .inr (.inl f88))), (am39, .inl (g.2.1 2, 24, .inr (.inl f75))), (am40, .inl (g.2.1 0, 25, .inl f76))] ++ pl) _ := hP
          have hD : va_D _ ([(h0, .inr (8, [.int (nI 0), .int (nI 0), .int (nI z24), .int (nI ks), .ref mt, .ref mr_, .ref mk, .ref mo, .ref mh, .ref mse, .ref mhs, .ref msp, .ref msc, .ref mha])), (mse, .inl (g.2.1 0, 8, .inl fS)), (msp, .inr (9, [.ref am36, .ref am37, .ref am38, .ref am39, .ref am40, .int (nI 136), .int (nI ps40), .int (nI 31)])), (am36, .inl (g.2.1 2, 25, .inr (.inl f86))), (am37, .inl (g.2.1 2, 25, .inr (.inl f87))), (am38, .inl (g.2.1 2, 5, .inr (.inl f88))), (am39, .inl (g.2.1 2, 24, .inr (.inl f75))), (am40, .inl (g.2.1 0, 25, .inl f76))] ++ pl) := hD
          refine lv_aload_n hx hb dM_hash_142 rfl (lv_at hl 0 rfl) ?_
          refine va_get (D := g.1) (ci := 8) (C := "LatticeKeysModel") (T := T_M) (N := 14) hx hb hts (wg_ft i_M) hown hK hP 0 rfl rfl 2 (by decide) (hts _ (wg_t kw_1528)) (fun _ h9 => h9) rfl dM_hash_143 ?_
          have hO := close1 (e := .inl (g.2.1 0, 25, .inl f76)) hO km40 ⟨_, rfl⟩
          have hO := close1 (e := .inl (g.2.1 2, 24, .inr (.inl f75))) hO km39 ⟨_, rfl⟩
          have hO := close1 (e := .inl (g.2.1 2, 5, .inr (.inl f88))) hO km38 ⟨_, rfl⟩
          have hO := close1 (e := .inl (g.2.1 2, 25, .inr (.inl f87))) hO km37 ⟨_, rfl⟩
          have hO := close1 (e := .inl (g.2.1 2, 25, .inr (.inl f86))) hO km36 ⟨_, rfl⟩
          have hO := close1 (e := .inr (9, [.ref am36, .ref am37, .ref am38, .ref am39, .ref am40, .int (nI 136), .int (nI ps40), .int (nI 31)])) hO k_msp ⟨_, _, _, _, _, _, _, _, rfl, km36, km37, km38, km39, km40, by omega, by omega, by omega⟩
          have hO : okx g T [] ((msp, .inr (9, [.ref am36, .ref am37, .ref am38, .ref am39, .ref am40, .int (nI 136), .int (nI ps40), .int (nI 31)])) :: (am36, .inl (g.2.1 2, 25, .inr (.inl f86))) :: (am37, .inl (g.2.1 2, 25, .inr (.inl f87))) :: (am38, .inl (g.2.1 2, 5, .inr (.inl f88))) :: (am39, .inl (g.2.1 2, 24, .inr (.inl f75))) :: (am40, .inl (g.2.1 0, 25, .inl f76)) :: pl) := hO
          have hP : va_P g.1 vcl ([(h0, .inr (8, [.int (nI 0), .int (nI 0), .int (nI z24), .int (nI ks), .ref mt, .ref mr_, .ref mk, .ref mo, .ref mh, .ref mse, .ref mhs, .ref msp, .ref msc, .ref mha])), (mse, .inl (g.2.1 0, 8, .inl fS))] ++ ((msp, .inr (9, [.ref am36, .ref am37, .ref am38, .ref am39, .ref am40, .int (nI 136), .int (nI ps40), .int (nI 31)])) :: (am36, .inl (g.2.1 2, 25, .inr (.inl f86))) :: (am37, .inl (g.2.1 2, 25, .inr (.inl f87))) :: (am38, .inl (g.2.1 2, 5, .inr (.inl f88))) :: (am39, .inl (g.2.1 2, 24, .inr (.inl f75))) :: (am40, .inl (g.2.1 0, 25, .inl f76)) :: pl)) _ := hP
          have hD : va_D _ ([(h0, .inr (8, [.int (nI 0), .int (nI 0), .int (nI z24), .int (nI ks), .ref mt, .ref mr_, .ref mk, .ref mo, .ref mh, .ref mse, .ref mhs, .ref msp, .ref msc, .ref mha])), (mse, .inl (g.2.1 0, 8, .inl fS))] ++ ((msp, .inr (9, [.ref am36, .ref am37, .ref am38, .ref am39, .ref am40, .int (nI 136), .int (nI ps40), .int (nI 31)])) :: (am36, .inl (g.2.1 2, 25, .inr (.inl f86))) :: (am37, .inl (g.2.1 2, 25, .inr (.inl f87))) :: (am38, .inl (g.2.1 2, 5, .inr (.inl f88))) :: (am39, .inl (g.2.1 2, 24, .inr (.inl f75))) :: (am40, .inl (g.2.1 0, 25, .inl f76)) :: pl)) := hD
          generalize ((msp, .inr (9, [.ref am36, .ref am37, .ref am38, .ref am39, .ref am40, .int (nI 136), .int (nI ps40), .int (nI 31)])) :: (am36, .inl (g.2.1 2, 25, .inr (.inl f86))) :: (am37, .inl (g.2.1 2, 25, .inr (.inl f87))) :: (am38, .inl (g.2.1 2, 5, .inr (.inl f88))) :: (am39, .inl (g.2.1 2, 24, .inr (.inl f75))) :: (am40, .inl (g.2.1 0, 25, .inl f76)) :: pl) = pl at hO hP hD
          exact mp_iret hx hb hr hlk hP hD hS ((nI 0, 0, z24, ks, fS), pl) ⟨⟨(by show 0 ≤ 16384; omega), (by show z24 ≤ 8192; omega), (by show ks ≤ 8; omega), hS5, (by rw [hv3 (by omega)]), (fun _ => by rw [hv3 (by omega)])⟩, hO⟩ [0, 1] rfl rfl rfl (by omega) (by omega) dM_hash_146
        · refine lv_aload_n hx hb dM_hash_25 rfl (lv_at hl 0 rfl) ?_
          refine lv_iconst (v := nI 1) hx hb dM_hash_26 (by decide) ?_
          refine mp_i (cx := [(h0, .inr (8, [.int (nI 0), .int (nI tp), .int (nI rs), .int (nI ks), .ref mt, .ref mr_, .ref mk, .ref mo, .ref mh, .ref mse, .ref mhs, .ref msp, .ref msc, .ref mha])), (mse, .inl (g.2.1 0, 8, .inl fS))]) (wr := []) hP hD hS hA [0, 1] [] rfl rfl rfl (by decide) (va_runV (As := [.int (nI 1)]) (rest := []) F (t_M_fail l g _ T  pl hO hU  (nI 1) h0 mt mr_ mk mo mh mse mhs msp msc mha tp rs ks (nI 0) fS k_mt k_mr_ k_mk k_mo k_mh k_mhs k_msp k_msc k_mha (by omega) hS5) (cwV 1 hts (wg_app (wg_c kw_1577 (wg_c kw_1579 (wg_c ks_50 (wg_c kw_9 wg_n)))) kw_1580) rfl rfl rfl (by decide +kernel) ⟨by decide, by decide⟩) (pp_V (en_ok g) (q0 := 0) hK hP hD hS hA hE [0, 1] rfl rfl rfl rfl) rfl rfl hl.1 rfl (lv_room (Nat.le_of_ble_eq_true rfl)) dM_hash_27 ⟨by omega, by omega⟩) (fun r28 u67 H locs hu44 hP hD hS => ?_)
          obtain ⟨u68, pl⟩ := u67
          obtain ⟨hq44, hO⟩ := hu44
          obtain ⟨th28, tp28, rs28, ks28, fS28⟩ := u68
          have hP : va_P g.1 vcl ([(h0, .inr (8, [.int th28, .int (nI tp28), .int (nI rs28), .int (nI ks28), .ref mt, .ref mr_, .ref mk, .ref mo, .ref mh, .ref mse, .ref mhs, .ref msp, .ref msc, .ref mha])), (mse, .inl (g.2.1 0, 8, .inl fS28))] ++ pl) _ := hP
          have hD : va_D _ ([(h0, .inr (8, [.int th28, .int (nI tp28), .int (nI rs28), .int (nI ks28), .ref mt, .ref mr_, .ref mk, .ref mo, .ref mh, .ref mse, .ref mhs, .ref msp, .ref msc, .ref mha])), (mse, .inl (g.2.1 0, 8, .inl fS28))] ++ pl) := hD
          obtain ⟨-, -, -, hm59, hm60⟩ := hq44
          obtain ⟨he56, he57, he58, he59, he60⟩ := hm60
          have he56 : th28 = nI 1 := he56
          have he57 : tp28 = tp := he57
          have he58 : rs28 = rs := he58
          have he59 : ks28 = ks := he59
          obtain rfl := he60
          refine W.widen (k := 0) (n := 0) (by omega) (by omega) ?_
          exact mp_iret hx hb hr hlk hP hD hS ((th28, tp28, rs28, ks28, fS28), pl) ⟨⟨(by show tp28 ≤ 16384; omega), (by show rs28 ≤ 8192; omega), (by show ks28 ≤ 8; omega), hm59, (by rw [hval_bad (Or.inr (Or.inr (Or.inr (Int32.not_le.mp h49))))]; exact he56), (fun h9 => absurd (show nI 1 = nI 0 from he56.symm.trans h9) (by decide))⟩, hO⟩ [0, 1] rfl rfl rfl (by omega) (by omega) dM_hash_30
    | _ + 4, h9 => exact absurd h9 (by omega)
  · have hbad := hb9
    refine lv_iload_n hx hb dM_hash_5 rfl (lv_at hl 1 rfl) ?_
    refine lv_if_lt (tgt := 25) hx hb dM_hash_6 (by decide) (fun h55 => ?_) (fun h55 => ?_)
    · refine lv_aload_n hx hb dM_hash_25 rfl (lv_at hl 0 rfl) ?_
      refine lv_iconst (v := nI 1) hx hb dM_hash_26 (by decide) ?_
      refine mp_i (cx := [(h0, .inr (8, [.int (nI 0), .int (nI tp), .int (nI rs), .int (nI ks), .ref mt, .ref mr_, .ref mk, .ref mo, .ref mh, .ref mse, .ref mhs, .ref msp, .ref msc, .ref mha])), (mse, .inl (g.2.1 0, 8, .inl fS))]) (wr := []) hP hD hS hA [0, 1] [] rfl rfl rfl (by decide) (va_runV (As := [.int (nI 1)]) (rest := []) F (t_M_fail l g _ T  pl hO hU  (nI 1) h0 mt mr_ mk mo mh mse mhs msp msc mha tp rs ks (nI 0) fS k_mt k_mr_ k_mk k_mo k_mh k_mhs k_msp k_msc k_mha (by omega) hS5) (cwV 1 hts (wg_app (wg_c kw_1577 (wg_c kw_1579 (wg_c ks_50 (wg_c kw_9 wg_n)))) kw_1580) rfl rfl rfl (by decide +kernel) ⟨by decide, by decide⟩) (pp_V (en_ok g) (q0 := 0) hK hP hD hS hA hE [0, 1] rfl rfl rfl rfl) rfl rfl hl.1 rfl (lv_room (Nat.le_of_ble_eq_true rfl)) dM_hash_27 ⟨by omega, by omega⟩) (fun r29 u69 H locs hu45 hP hD hS => ?_)
      obtain ⟨u70, pl⟩ := u69
      obtain ⟨hq45, hO⟩ := hu45
      obtain ⟨th29, tp29, rs29, ks29, fS29⟩ := u70
      have hP : va_P g.1 vcl ([(h0, .inr (8, [.int th29, .int (nI tp29), .int (nI rs29), .int (nI ks29), .ref mt, .ref mr_, .ref mk, .ref mo, .ref mh, .ref mse, .ref mhs, .ref msp, .ref msc, .ref mha])), (mse, .inl (g.2.1 0, 8, .inl fS29))] ++ pl) _ := hP
      have hD : va_D _ ([(h0, .inr (8, [.int th29, .int (nI tp29), .int (nI rs29), .int (nI ks29), .ref mt, .ref mr_, .ref mk, .ref mo, .ref mh, .ref mse, .ref mhs, .ref msp, .ref msc, .ref mha])), (mse, .inl (g.2.1 0, 8, .inl fS29))] ++ pl) := hD
      obtain ⟨-, -, -, hm64, hm65⟩ := hq45
      obtain ⟨he61, he62, he63, he64, he65⟩ := hm65
      have he61 : th29 = nI 1 := he61
      have he62 : tp29 = tp := he62
      have he63 : rs29 = rs := he63
      have he64 : ks29 = ks := he64
      obtain rfl := he65
      refine W.widen (k := 0) (n := 0) (by omega) (by omega) ?_
      exact mp_iret hx hb hr hlk hP hD hS ((th29, tp29, rs29, ks29, fS29), pl) ⟨⟨(by show tp29 ≤ 16384; omega), (by show rs29 ≤ 8192; omega), (by show ks29 ≤ 8; omega), hm64, (by rw [hval_bad (Or.inl h55)]; exact he61), (fun h9 => absurd (show nI 1 = nI 0 from he61.symm.trans h9) (by decide))⟩, hO⟩ [0, 1] rfl rfl rfl (by omega) (by omega) dM_hash_30
    · refine lv_iload_n hx hb dM_hash_9 rfl (lv_at hl 1 rfl) ?_
      refine lv_iconst (v := nI 3) hx hb dM_hash_10 (by decide) ?_
      refine lv_icmp_gt (tgt := 25) hx hb dM_hash_11 (by decide) (fun h56 => ?_) (fun h56 => absurd (hbad.resolve_left h55) h56)
      refine lv_aload_n hx hb dM_hash_25 rfl (lv_at hl 0 rfl) ?_
      refine lv_iconst (v := nI 1) hx hb dM_hash_26 (by decide) ?_
      refine mp_i (cx := [(h0, .inr (8, [.int (nI 0), .int (nI tp), .int (nI rs), .int (nI ks), .ref mt, .ref mr_, .ref mk, .ref mo, .ref mh, .ref mse, .ref mhs, .ref msp, .ref msc, .ref mha])), (mse, .inl (g.2.1 0, 8, .inl fS))]) (wr := []) hP hD hS hA [0, 1] [] rfl rfl rfl (by decide) (va_runV (As := [.int (nI 1)]) (rest := []) F (t_M_fail l g _ T  pl hO hU  (nI 1) h0 mt mr_ mk mo mh mse mhs msp msc mha tp rs ks (nI 0) fS k_mt k_mr_ k_mk k_mo k_mh k_mhs k_msp k_msc k_mha (by omega) hS5) (cwV 1 hts (wg_app (wg_c kw_1577 (wg_c kw_1579 (wg_c ks_50 (wg_c kw_9 wg_n)))) kw_1580) rfl rfl rfl (by decide +kernel) ⟨by decide, by decide⟩) (pp_V (en_ok g) (q0 := 0) hK hP hD hS hA hE [0, 1] rfl rfl rfl rfl) rfl rfl hl.1 rfl (lv_room (Nat.le_of_ble_eq_true rfl)) dM_hash_27 ⟨by omega, by omega⟩) (fun r30 u71 H locs hu46 hP hD hS => ?_)
      obtain ⟨u72, pl⟩ := u71
      obtain ⟨hq46, hO⟩ := hu46
      obtain ⟨th30, tp30, rs30, ks30, fS30⟩ := u72
      have hP : va_P g.1 vcl ([(h0, .inr (8, [.int th30, .int (nI tp30), .int (nI rs30), .int (nI ks30), .ref mt, .ref mr_, .ref mk, .ref mo, .ref mh, .ref mse, .ref mhs, .ref msp, .ref msc, .ref mha])), (mse, .inl (g.2.1 0, 8, .inl fS30))] ++ pl) _ := hP
      have hD : va_D _ ([(h0, .inr (8, [.int th30, .int (nI tp30), .int (nI rs30), .int (nI ks30), .ref mt, .ref mr_, .ref mk, .ref mo, .ref mh, .ref mse, .ref mhs, .ref msp, .ref msc, .ref mha])), (mse, .inl (g.2.1 0, 8, .inl fS30))] ++ pl) := hD
      obtain ⟨-, -, -, hm69, hm70⟩ := hq46
      obtain ⟨he66, he67, he68, he69, he70⟩ := hm70
      have he66 : th30 = nI 1 := he66
      have he67 : tp30 = tp := he67
      have he68 : rs30 = rs := he68
      have he69 : ks30 = ks := he69
      obtain rfl := he70
      refine W.widen (k := 0) (n := 0) (by omega) (by omega) ?_
      exact mp_iret hx hb hr hlk hP hD hS ((th30, tp30, rs30, ks30, fS30), pl) ⟨⟨(by show tp30 ≤ 16384; omega), (by show rs30 ≤ 8192; omega), (by show ks30 ≤ 8; omega), hm69, (by rw [hval_bad (Or.inr (Or.inl h56))]; exact he66), (fun h9 => absurd (show nI 1 = nI 0 from he66.symm.trans h9) (by decide))⟩, hO⟩ [0, 1] rfl rfl rfl (by omega) (by omega) dM_hash_30
