set_option linter.all false
abbrev c_DA_digestOf : ByteArray := prog_3_method_8_code
abbrev y_DA_digestOf : MethodName := ⟨"LatticeKeys$Dsa", "digestOf", "([B)V"⟩
abbrev w_DA_digestOf : List Cond := Cond.code y_DA_digestOf c_DA_digestOf 2 none :: WG
theorem dDA_digestOf_0 : decode c_DA_digestOf 0 = .ok (.aload_n 0, 1) := by decide +kernel
theorem dDA_digestOf_1 : decode c_DA_digestOf 1 = .ok (.getfield 10, 3) := by decide +kernel
theorem dDA_digestOf_4 : decode c_DA_digestOf 4 = .ok (.iconst 3, 1) := by decide +kernel
theorem dDA_digestOf_5 : decode c_DA_digestOf 5 = .ok (.invokevirtual 79, 3) := by decide +kernel
theorem dDA_digestOf_8 : decode c_DA_digestOf 8 = .ok (.aload_n 0, 1) := by decide +kernel
theorem dDA_digestOf_9 : decode c_DA_digestOf 9 = .ok (.getfield 10, 3) := by decide +kernel
theorem dDA_digestOf_12 : decode c_DA_digestOf 12 = .ok (.aload_n 1, 1) := by decide +kernel
theorem dDA_digestOf_13 : decode c_DA_digestOf 13 = .ok (.iconst 0, 1) := by decide +kernel
theorem dDA_digestOf_14 : decode c_DA_digestOf 14 = .ok (.aload_n 1, 1) := by decide +kernel
theorem dDA_digestOf_15 : decode c_DA_digestOf 15 = .ok (.arraylength, 1) := by decide +kernel
theorem dDA_digestOf_16 : decode c_DA_digestOf 16 = .ok (.invokevirtual 83, 3) := by decide +kernel
theorem dDA_digestOf_19 : decode c_DA_digestOf 19 = .ok (.aload_n 0, 1) := by decide +kernel
theorem dDA_digestOf_20 : decode c_DA_digestOf 20 = .ok (.getfield 10, 3) := by decide +kernel
theorem dDA_digestOf_23 : decode c_DA_digestOf 23 = .ok (.invokevirtual 99, 3) := by decide +kernel
theorem dDA_digestOf_26 : decode c_DA_digestOf 26 = .ok (.aload_n 0, 1) := by decide +kernel
theorem dDA_digestOf_27 : decode c_DA_digestOf 27 = .ok (.getfield 10, 3) := by decide +kernel
theorem dDA_digestOf_30 : decode c_DA_digestOf 30 = .ok (.aload_n 0, 1) := by decide +kernel
theorem dDA_digestOf_31 : decode c_DA_digestOf 31 = .ok (.getfield 64, 3) := by decide +kernel
theorem dDA_digestOf_34 : decode c_DA_digestOf 34 = .ok (.iconst 0, 1) := by decide +kernel
theorem dDA_digestOf_35 : decode c_DA_digestOf 35 = .ok (.bipush 64, 2) := by decide +kernel
theorem dDA_digestOf_37 : decode c_DA_digestOf 37 = .ok (.invokevirtual 102, 3) := by decide +kernel
theorem dDA_digestOf_40 : decode c_DA_digestOf 40 = .ok (.return_, 1) := by decide +kernel
abbrev c_DA_digestMessage : ByteArray := prog_3_method_9_code
abbrev y_DA_digestMessage : MethodName := ⟨"LatticeKeys$Dsa", "digestMessage", "([BIII)V"⟩
abbrev w_DA_digestMessage : List Cond := Cond.code y_DA_digestMessage c_DA_digestMessage 5 none :: WG
theorem dDA_digestMessage_0 : decode c_DA_digestMessage 0 = .ok (.aload_n 0, 1) := by decide +kernel
theorem dDA_digestMessage_1 : decode c_DA_digestMessage 1 = .ok (.getfield 10, 3) := by decide +kernel
theorem dDA_digestMessage_4 : decode c_DA_digestMessage 4 = .ok (.iconst 3, 1) := by decide +kernel
theorem dDA_digestMessage_5 : decode c_DA_digestMessage 5 = .ok (.invokevirtual 79, 3) := by decide +kernel
theorem dDA_digestMessage_8 : decode c_DA_digestMessage 8 = .ok (.aload_n 0, 1) := by decide +kernel
theorem dDA_digestMessage_9 : decode c_DA_digestMessage 9 = .ok (.getfield 10, 3) := by decide +kernel
theorem dDA_digestMessage_12 : decode c_DA_digestMessage 12 = .ok (.aload_n 0, 1) := by decide +kernel
theorem dDA_digestMessage_13 : decode c_DA_digestMessage 13 = .ok (.getfield 64, 3) := by decide +kernel
theorem dDA_digestMessage_16 : decode c_DA_digestMessage 16 = .ok (.iconst 0, 1) := by decide +kernel
theorem dDA_digestMessage_17 : decode c_DA_digestMessage 17 = .ok (.bipush 64, 2) := by decide +kernel
theorem dDA_digestMessage_19 : decode c_DA_digestMessage 19 = .ok (.invokevirtual 83, 3) := by decide +kernel
theorem dDA_digestMessage_22 : decode c_DA_digestMessage 22 = .ok (.aload_n 0, 1) := by decide +kernel
theorem dDA_digestMessage_23 : decode c_DA_digestMessage 23 = .ok (.getfield 10, 3) := by decide +kernel
theorem dDA_digestMessage_26 : decode c_DA_digestMessage 26 = .ok (.iconst 0, 1) := by decide +kernel
theorem dDA_digestMessage_27 : decode c_DA_digestMessage 27 = .ok (.invokevirtual 93, 3) := by decide +kernel
theorem dDA_digestMessage_30 : decode c_DA_digestMessage 30 = .ok (.aload_n 0, 1) := by decide +kernel
theorem dDA_digestMessage_31 : decode c_DA_digestMessage 31 = .ok (.getfield 10, 3) := by decide +kernel
theorem dDA_digestMessage_34 : decode c_DA_digestMessage 34 = .ok (.iload 4, 2) := by decide +kernel
theorem dDA_digestMessage_36 : decode c_DA_digestMessage 36 = .ok (.invokevirtual 93, 3) := by decide +kernel
theorem dDA_digestMessage_39 : decode c_DA_digestMessage 39 = .ok (.aload_n 0, 1) := by decide +kernel
theorem dDA_digestMessage_40 : decode c_DA_digestMessage 40 = .ok (.getfield 10, 3) := by decide +kernel
theorem dDA_digestMessage_43 : decode c_DA_digestMessage 43 = .ok (.aload_n 1, 1) := by decide +kernel
theorem dDA_digestMessage_44 : decode c_DA_digestMessage 44 = .ok (.iload_n 2, 1) := by decide +kernel
theorem dDA_digestMessage_45 : decode c_DA_digestMessage 45 = .ok (.iload_n 3, 1) := by decide +kernel
theorem dDA_digestMessage_46 : decode c_DA_digestMessage 46 = .ok (.iload_n 2, 1) := by decide +kernel
theorem dDA_digestMessage_47 : decode c_DA_digestMessage 47 = .ok (.isub, 1) := by decide +kernel
theorem dDA_digestMessage_48 : decode c_DA_digestMessage 48 = .ok (.invokevirtual 83, 3) := by decide +kernel
theorem dDA_digestMessage_51 : decode c_DA_digestMessage 51 = .ok (.aload_n 0, 1) := by decide +kernel
theorem dDA_digestMessage_52 : decode c_DA_digestMessage 52 = .ok (.getfield 10, 3) := by decide +kernel
theorem dDA_digestMessage_55 : decode c_DA_digestMessage 55 = .ok (.invokevirtual 99, 3) := by decide +kernel
theorem dDA_digestMessage_58 : decode c_DA_digestMessage 58 = .ok (.aload_n 0, 1) := by decide +kernel
theorem dDA_digestMessage_59 : decode c_DA_digestMessage 59 = .ok (.getfield 10, 3) := by decide +kernel
theorem dDA_digestMessage_62 : decode c_DA_digestMessage 62 = .ok (.aload_n 0, 1) := by decide +kernel
theorem dDA_digestMessage_63 : decode c_DA_digestMessage 63 = .ok (.getfield 64, 3) := by decide +kernel
theorem dDA_digestMessage_66 : decode c_DA_digestMessage 66 = .ok (.iconst 0, 1) := by decide +kernel
theorem dDA_digestMessage_67 : decode c_DA_digestMessage 67 = .ok (.bipush 64, 2) := by decide +kernel
theorem dDA_digestMessage_69 : decode c_DA_digestMessage 69 = .ok (.invokevirtual 102, 3) := by decide +kernel
theorem dDA_digestMessage_72 : decode c_DA_digestMessage 72 = .ok (.return_, 1) := by decide +kernel
abbrev c_DA_readFlipped : ByteArray := prog_3_method_7_code
abbrev y_DA_readFlipped : MethodName := ⟨"LatticeKeys$Dsa", "readFlipped", "([III[BI)V"⟩
abbrev w_DA_readFlipped : List Cond := Cond.code y_DA_readFlipped c_DA_readFlipped 6 none :: WG
theorem dDA_readFlipped_0 : decode c_DA_readFlipped 0 = .ok (.aload_n 1, 1) := by decide +kernel
theorem dDA_readFlipped_1 : decode c_DA_readFlipped 1 = .ok (.iload_n 2, 1) := by decide +kernel
theorem dDA_readFlipped_2 : decode c_DA_readFlipped 2 = .ok (.aload 4, 2) := by decide +kernel
theorem dDA_readFlipped_4 : decode c_DA_readFlipped 4 = .ok (.iload 5, 2) := by decide +kernel
theorem dDA_readFlipped_6 : decode c_DA_readFlipped 6 = .ok (.invokestatic 189, 3) := by decide +kernel
theorem dDA_readFlipped_9 : decode c_DA_readFlipped 9 = .ok (.aload_n 0, 1) := by decide +kernel
theorem dDA_readFlipped_10 : decode c_DA_readFlipped 10 = .ok (.getfield 22, 3) := by decide +kernel
theorem dDA_readFlipped_13 : decode c_DA_readFlipped 13 = .ok (.aload_n 1, 1) := by decide +kernel
theorem dDA_readFlipped_14 : decode c_DA_readFlipped 14 = .ok (.iload_n 3, 1) := by decide +kernel
theorem dDA_readFlipped_15 : decode c_DA_readFlipped 15 = .ok (.aload_n 1, 1) := by decide +kernel
theorem dDA_readFlipped_16 : decode c_DA_readFlipped 16 = .ok (.invokevirtual 157, 3) := by decide +kernel
theorem dDA_readFlipped_19 : decode c_DA_readFlipped 19 = .ok (.return_, 1) := by decide +kernel
abbrev c_DA_splitRow : ByteArray := prog_3_method_4_code
abbrev y_DA_splitRow : MethodName := ⟨"LatticeKeys$Dsa", "splitRow", "([I)V"⟩
abbrev w_DA_splitRow : List Cond := Cond.code y_DA_splitRow c_DA_splitRow 5 none :: WG
theorem dDA_splitRow_0 : decode c_DA_splitRow 0 = .ok (.sipush 4096, 3) := by decide +kernel
theorem dDA_splitRow_3 : decode c_DA_splitRow 3 = .ok (.istore_n 2, 1) := by decide +kernel
theorem dDA_splitRow_4 : decode c_DA_splitRow 4 = .ok (.iconst 0, 1) := by decide +kernel
theorem dDA_splitRow_5 : decode c_DA_splitRow 5 = .ok (.istore_n 3, 1) := by decide +kernel
theorem dDA_splitRow_6 : decode c_DA_splitRow 6 = .ok (.iload_n 3, 1) := by decide +kernel
theorem dDA_splitRow_7 : decode c_DA_splitRow 7 = .ok (.sipush 256, 3) := by decide +kernel
theorem dDA_splitRow_10 : decode c_DA_splitRow 10 = .ok (.if_icmp .ge 61, 3) := by decide +kernel
theorem dDA_splitRow_13 : decode c_DA_splitRow 13 = .ok (.aload_n 1, 1) := by decide +kernel
theorem dDA_splitRow_14 : decode c_DA_splitRow 14 = .ok (.iload_n 3, 1) := by decide +kernel
theorem dDA_splitRow_15 : decode c_DA_splitRow 15 = .ok (.iaload, 1) := by decide +kernel
theorem dDA_splitRow_16 : decode c_DA_splitRow 16 = .ok (.iconst 2, 1) := by decide +kernel
theorem dDA_splitRow_17 : decode c_DA_splitRow 17 = .ok (.iload_n 2, 1) := by decide +kernel
theorem dDA_splitRow_18 : decode c_DA_splitRow 18 = .ok (.imul, 1) := by decide +kernel
theorem dDA_splitRow_19 : decode c_DA_splitRow 19 = .ok (.iconst 1, 1) := by decide +kernel
theorem dDA_splitRow_20 : decode c_DA_splitRow 20 = .ok (.isub, 1) := by decide +kernel
theorem dDA_splitRow_21 : decode c_DA_splitRow 21 = .ok (.iand, 1) := by decide +kernel
theorem dDA_splitRow_22 : decode c_DA_splitRow 22 = .ok (.istore 4, 2) := by decide +kernel
theorem dDA_splitRow_24 : decode c_DA_splitRow 24 = .ok (.iload 4, 2) := by decide +kernel
theorem dDA_splitRow_26 : decode c_DA_splitRow 26 = .ok (.iload_n 2, 1) := by decide +kernel
theorem dDA_splitRow_27 : decode c_DA_splitRow 27 = .ok (.if_icmp .le 12, 3) := by decide +kernel
theorem dDA_splitRow_30 : decode c_DA_splitRow 30 = .ok (.iload 4, 2) := by decide +kernel
theorem dDA_splitRow_32 : decode c_DA_splitRow 32 = .ok (.iconst 2, 1) := by decide +kernel
theorem dDA_splitRow_33 : decode c_DA_splitRow 33 = .ok (.iload_n 2, 1) := by decide +kernel
theorem dDA_splitRow_34 : decode c_DA_splitRow 34 = .ok (.imul, 1) := by decide +kernel
theorem dDA_splitRow_35 : decode c_DA_splitRow 35 = .ok (.isub, 1) := by decide +kernel
theorem dDA_splitRow_36 : decode c_DA_splitRow 36 = .ok (.goto 5, 3) := by decide +kernel
theorem dDA_splitRow_39 : decode c_DA_splitRow 39 = .ok (.iload 4, 2) := by decide +kernel
theorem dDA_splitRow_41 : decode c_DA_splitRow 41 = .ok (.istore 4, 2) := by decide +kernel
theorem dDA_splitRow_43 : decode c_DA_splitRow 43 = .ok (.aload_n 0, 1) := by decide +kernel
theorem dDA_splitRow_44 : decode c_DA_splitRow 44 = .ok (.getfield 57, 3) := by decide +kernel
theorem dDA_splitRow_47 : decode c_DA_splitRow 47 = .ok (.iload_n 3, 1) := by decide +kernel
theorem dDA_splitRow_48 : decode c_DA_splitRow 48 = .ok (.iload_n 2, 1) := by decide +kernel
theorem dDA_splitRow_49 : decode c_DA_splitRow 49 = .ok (.iload 4, 2) := by decide +kernel
theorem dDA_splitRow_51 : decode c_DA_splitRow 51 = .ok (.isub, 1) := by decide +kernel
theorem dDA_splitRow_52 : decode c_DA_splitRow 52 = .ok (.iastore, 1) := by decide +kernel
theorem dDA_splitRow_53 : decode c_DA_splitRow 53 = .ok (.aload_n 1, 1) := by decide +kernel
theorem dDA_splitRow_54 : decode c_DA_splitRow 54 = .ok (.iload_n 3, 1) := by decide +kernel
theorem dDA_splitRow_55 : decode c_DA_splitRow 55 = .ok (.aload_n 1, 1) := by decide +kernel
theorem dDA_splitRow_56 : decode c_DA_splitRow 56 = .ok (.iload_n 3, 1) := by decide +kernel
theorem dDA_splitRow_57 : decode c_DA_splitRow 57 = .ok (.iaload, 1) := by decide +kernel
theorem dDA_splitRow_58 : decode c_DA_splitRow 58 = .ok (.iload 4, 2) := by decide +kernel
theorem dDA_splitRow_60 : decode c_DA_splitRow 60 = .ok (.isub, 1) := by decide +kernel
theorem dDA_splitRow_61 : decode c_DA_splitRow 61 = .ok (.bipush 13, 2) := by decide +kernel
theorem dDA_splitRow_63 : decode c_DA_splitRow 63 = .ok (.ishr, 1) := by decide +kernel
theorem dDA_splitRow_64 : decode c_DA_splitRow 64 = .ok (.iastore, 1) := by decide +kernel
theorem dDA_splitRow_65 : decode c_DA_splitRow 65 = .ok (.iinc 3 1, 3) := by decide +kernel
theorem dDA_splitRow_68 : decode c_DA_splitRow 68 = .ok (.goto (-62), 3) := by decide +kernel
theorem dDA_splitRow_71 : decode c_DA_splitRow 71 = .ok (.return_, 1) := by decide +kernel
abbrev c_DA_multiplyBall : ByteArray := prog_3_method_14_code
abbrev y_DA_multiplyBall : MethodName := ⟨"LatticeKeys$Dsa", "multiplyBall", "([I)V"⟩
abbrev w_DA_multiplyBall : List Cond := Cond.code y_DA_multiplyBall c_DA_multiplyBall 2 none :: WG
theorem dDA_multiplyBall_0 : decode c_DA_multiplyBall 0 = .ok (.aload_n 0, 1) := by decide +kernel
theorem dDA_multiplyBall_1 : decode c_DA_multiplyBall 1 = .ok (.getfield 57, 3) := by decide +kernel
theorem dDA_multiplyBall_4 : decode c_DA_multiplyBall 4 = .ok (.iconst 0, 1) := by decide +kernel
theorem dDA_multiplyBall_5 : decode c_DA_multiplyBall 5 = .ok (.invokestatic 192, 3) := by decide +kernel
theorem dDA_multiplyBall_8 : decode c_DA_multiplyBall 8 = .ok (.aload_n 0, 1) := by decide +kernel
theorem dDA_multiplyBall_9 : decode c_DA_multiplyBall 9 = .ok (.getfield 22, 3) := by decide +kernel
theorem dDA_multiplyBall_12 : decode c_DA_multiplyBall 12 = .ok (.aload_n 0, 1) := by decide +kernel
theorem dDA_multiplyBall_13 : decode c_DA_multiplyBall 13 = .ok (.getfield 57, 3) := by decide +kernel
theorem dDA_multiplyBall_16 : decode c_DA_multiplyBall 16 = .ok (.aload_n 0, 1) := by decide +kernel
theorem dDA_multiplyBall_17 : decode c_DA_multiplyBall 17 = .ok (.getfield 53, 3) := by decide +kernel
theorem dDA_multiplyBall_20 : decode c_DA_multiplyBall 20 = .ok (.aload_n 1, 1) := by decide +kernel
theorem dDA_multiplyBall_21 : decode c_DA_multiplyBall 21 = .ok (.invokevirtual 205, 3) := by decide +kernel
theorem dDA_multiplyBall_24 : decode c_DA_multiplyBall 24 = .ok (.aload_n 0, 1) := by decide +kernel
theorem dDA_multiplyBall_25 : decode c_DA_multiplyBall 25 = .ok (.getfield 22, 3) := by decide +kernel
theorem dDA_multiplyBall_28 : decode c_DA_multiplyBall 28 = .ok (.aload_n 0, 1) := by decide +kernel
theorem dDA_multiplyBall_29 : decode c_DA_multiplyBall 29 = .ok (.getfield 57, 3) := by decide +kernel
theorem dDA_multiplyBall_32 : decode c_DA_multiplyBall 32 = .ok (.invokevirtual 130, 3) := by decide +kernel
theorem dDA_multiplyBall_35 : decode c_DA_multiplyBall 35 = .ok (.return_, 1) := by decide +kernel
abbrev c_DA_multiplyRow : ByteArray := prog_3_method_13_code
abbrev y_DA_multiplyRow : MethodName := ⟨"LatticeKeys$Dsa", "multiplyRow", "(LLatticeKeys$DsaSet;I[[I)V"⟩
abbrev w_DA_multiplyRow : List Cond := Cond.code y_DA_multiplyRow c_DA_multiplyRow 5 none :: WG
theorem dDA_multiplyRow_0 : decode c_DA_multiplyRow 0 = .ok (.aload_n 0, 1) := by decide +kernel
theorem dDA_multiplyRow_1 : decode c_DA_multiplyRow 1 = .ok (.getfield 50, 3) := by decide +kernel
theorem dDA_multiplyRow_4 : decode c_DA_multiplyRow 4 = .ok (.iload_n 2, 1) := by decide +kernel
theorem dDA_multiplyRow_5 : decode c_DA_multiplyRow 5 = .ok (.aaload, 1) := by decide +kernel
theorem dDA_multiplyRow_6 : decode c_DA_multiplyRow 6 = .ok (.iconst 0, 1) := by decide +kernel
theorem dDA_multiplyRow_7 : decode c_DA_multiplyRow 7 = .ok (.invokestatic 192, 3) := by decide +kernel
theorem dDA_multiplyRow_10 : decode c_DA_multiplyRow 10 = .ok (.iconst 0, 1) := by decide +kernel
theorem dDA_multiplyRow_11 : decode c_DA_multiplyRow 11 = .ok (.istore 4, 2) := by decide +kernel
theorem dDA_multiplyRow_13 : decode c_DA_multiplyRow 13 = .ok (.iload 4, 2) := by decide +kernel
theorem dDA_multiplyRow_15 : decode c_DA_multiplyRow 15 = .ok (.aload_n 1, 1) := by decide +kernel
theorem dDA_multiplyRow_16 : decode c_DA_multiplyRow 16 = .ok (.getfield 96, 3) := by decide +kernel
theorem dDA_multiplyRow_19 : decode c_DA_multiplyRow 19 = .ok (.if_icmp .ge 40, 3) := by decide +kernel
theorem dDA_multiplyRow_22 : decode c_DA_multiplyRow 22 = .ok (.aload_n 0, 1) := by decide +kernel
theorem dDA_multiplyRow_23 : decode c_DA_multiplyRow 23 = .ok (.getfield 22, 3) := by decide +kernel
theorem dDA_multiplyRow_26 : decode c_DA_multiplyRow 26 = .ok (.aload_n 0, 1) := by decide +kernel
theorem dDA_multiplyRow_27 : decode c_DA_multiplyRow 27 = .ok (.getfield 50, 3) := by decide +kernel
theorem dDA_multiplyRow_30 : decode c_DA_multiplyRow 30 = .ok (.iload_n 2, 1) := by decide +kernel
theorem dDA_multiplyRow_31 : decode c_DA_multiplyRow 31 = .ok (.aaload, 1) := by decide +kernel
theorem dDA_multiplyRow_32 : decode c_DA_multiplyRow 32 = .ok (.aload_n 0, 1) := by decide +kernel
theorem dDA_multiplyRow_33 : decode c_DA_multiplyRow 33 = .ok (.getfield 35, 3) := by decide +kernel
theorem dDA_multiplyRow_36 : decode c_DA_multiplyRow 36 = .ok (.aload_n 1, 1) := by decide +kernel
theorem dDA_multiplyRow_37 : decode c_DA_multiplyRow 37 = .ok (.getfield 96, 3) := by decide +kernel
theorem dDA_multiplyRow_40 : decode c_DA_multiplyRow 40 = .ok (.iload_n 2, 1) := by decide +kernel
theorem dDA_multiplyRow_41 : decode c_DA_multiplyRow 41 = .ok (.imul, 1) := by decide +kernel
theorem dDA_multiplyRow_42 : decode c_DA_multiplyRow 42 = .ok (.iload 4, 2) := by decide +kernel
theorem dDA_multiplyRow_44 : decode c_DA_multiplyRow 44 = .ok (.iadd, 1) := by decide +kernel
theorem dDA_multiplyRow_45 : decode c_DA_multiplyRow 45 = .ok (.aaload, 1) := by decide +kernel
theorem dDA_multiplyRow_46 : decode c_DA_multiplyRow 46 = .ok (.aload_n 3, 1) := by decide +kernel
theorem dDA_multiplyRow_47 : decode c_DA_multiplyRow 47 = .ok (.iload 4, 2) := by decide +kernel
theorem dDA_multiplyRow_49 : decode c_DA_multiplyRow 49 = .ok (.aaload, 1) := by decide +kernel
theorem dDA_multiplyRow_50 : decode c_DA_multiplyRow 50 = .ok (.invokevirtual 205, 3) := by decide +kernel
theorem dDA_multiplyRow_53 : decode c_DA_multiplyRow 53 = .ok (.iinc 4 1, 3) := by decide +kernel
theorem dDA_multiplyRow_56 : decode c_DA_multiplyRow 56 = .ok (.goto (-43), 3) := by decide +kernel
theorem dDA_multiplyRow_59 : decode c_DA_multiplyRow 59 = .ok (.return_, 1) := by decide +kernel
abbrev c_DA_readSecret : ByteArray := prog_3_method_6_code
abbrev y_DA_readSecret : MethodName := ⟨"LatticeKeys$Dsa", "readSecret", "(LLatticeKeys$DsaSet;[B)V"⟩
abbrev w_DA_readSecret : List Cond := Cond.code y_DA_readSecret c_DA_readSecret 5 none :: WG
theorem dDA_readSecret_0 : decode c_DA_readSecret 0 = .ok (.aload_n 0, 1) := by decide +kernel
theorem dDA_readSecret_1 : decode c_DA_readSecret 1 = .ok (.getfield 29, 3) := by decide +kernel
theorem dDA_readSecret_4 : decode c_DA_readSecret 4 = .ok (.aload_n 1, 1) := by decide +kernel
theorem dDA_readSecret_5 : decode c_DA_readSecret 5 = .ok (.aload_n 2, 1) := by decide +kernel
theorem dDA_readSecret_6 : decode c_DA_readSecret 6 = .ok (.aload_n 0, 1) := by decide +kernel
theorem dDA_readSecret_7 : decode c_DA_readSecret 7 = .ok (.getfield 35, 3) := by decide +kernel
theorem dDA_readSecret_10 : decode c_DA_readSecret 10 = .ok (.invokevirtual 115, 3) := by decide +kernel
theorem dDA_readSecret_13 : decode c_DA_readSecret 13 = .ok (.sipush 128, 3) := by decide +kernel
theorem dDA_readSecret_16 : decode c_DA_readSecret 16 = .ok (.istore_n 3, 1) := by decide +kernel
theorem dDA_readSecret_17 : decode c_DA_readSecret 17 = .ok (.iconst 0, 1) := by decide +kernel
theorem dDA_readSecret_18 : decode c_DA_readSecret 18 = .ok (.istore 4, 2) := by decide +kernel
theorem dDA_readSecret_20 : decode c_DA_readSecret 20 = .ok (.iload 4, 2) := by decide +kernel
theorem dDA_readSecret_22 : decode c_DA_readSecret 22 = .ok (.aload_n 1, 1) := by decide +kernel
theorem dDA_readSecret_23 : decode c_DA_readSecret 23 = .ok (.getfield 96, 3) := by decide +kernel
theorem dDA_readSecret_26 : decode c_DA_readSecret 26 = .ok (.if_icmp .ge 54, 3) := by decide +kernel
theorem dDA_readSecret_29 : decode c_DA_readSecret 29 = .ok (.aload_n 0, 1) := by decide +kernel
theorem dDA_readSecret_30 : decode c_DA_readSecret 30 = .ok (.aload_n 0, 1) := by decide +kernel
theorem dDA_readSecret_31 : decode c_DA_readSecret 31 = .ok (.getfield 38, 3) := by decide +kernel
theorem dDA_readSecret_34 : decode c_DA_readSecret 34 = .ok (.iload 4, 2) := by decide +kernel
theorem dDA_readSecret_36 : decode c_DA_readSecret 36 = .ok (.aaload, 1) := by decide +kernel
theorem dDA_readSecret_37 : decode c_DA_readSecret 37 = .ok (.aload_n 1, 1) := by decide +kernel
theorem dDA_readSecret_38 : decode c_DA_readSecret 38 = .ok (.getfield 123, 3) := by decide +kernel
theorem dDA_readSecret_41 : decode c_DA_readSecret 41 = .ok (.aload_n 1, 1) := by decide +kernel
theorem dDA_readSecret_42 : decode c_DA_readSecret 42 = .ok (.getfield 154, 3) := by decide +kernel
theorem dDA_readSecret_45 : decode c_DA_readSecret 45 = .ok (.aload_n 2, 1) := by decide +kernel
theorem dDA_readSecret_46 : decode c_DA_readSecret 46 = .ok (.iload_n 3, 1) := by decide +kernel
theorem dDA_readSecret_47 : decode c_DA_readSecret 47 = .ok (.invokevirtual 185, 3) := by decide +kernel
theorem dDA_readSecret_50 : decode c_DA_readSecret 50 = .ok (.aload_n 0, 1) := by decide +kernel
theorem dDA_readSecret_51 : decode c_DA_readSecret 51 = .ok (.getfield 22, 3) := by decide +kernel
theorem dDA_readSecret_54 : decode c_DA_readSecret 54 = .ok (.aload_n 0, 1) := by decide +kernel
theorem dDA_readSecret_55 : decode c_DA_readSecret 55 = .ok (.getfield 38, 3) := by decide +kernel
theorem dDA_readSecret_58 : decode c_DA_readSecret 58 = .ok (.iload 4, 2) := by decide +kernel
theorem dDA_readSecret_60 : decode c_DA_readSecret 60 = .ok (.aaload, 1) := by decide +kernel
theorem dDA_readSecret_61 : decode c_DA_readSecret 61 = .ok (.invokevirtual 119, 3) := by decide +kernel
theorem dDA_readSecret_64 : decode c_DA_readSecret 64 = .ok (.iload_n 3, 1) := by decide +kernel
theorem dDA_readSecret_65 : decode c_DA_readSecret 65 = .ok (.bipush 32, 2) := by decide +kernel
theorem dDA_readSecret_67 : decode c_DA_readSecret 67 = .ok (.aload_n 1, 1) := by decide +kernel
theorem dDA_readSecret_68 : decode c_DA_readSecret 68 = .ok (.getfield 123, 3) := by decide +kernel
theorem dDA_readSecret_71 : decode c_DA_readSecret 71 = .ok (.imul, 1) := by decide +kernel
theorem dDA_readSecret_72 : decode c_DA_readSecret 72 = .ok (.iadd, 1) := by decide +kernel
theorem dDA_readSecret_73 : decode c_DA_readSecret 73 = .ok (.istore_n 3, 1) := by decide +kernel
theorem dDA_readSecret_74 : decode c_DA_readSecret 74 = .ok (.iinc 4 1, 3) := by decide +kernel
theorem dDA_readSecret_77 : decode c_DA_readSecret 77 = .ok (.goto (-57), 3) := by decide +kernel
theorem dDA_readSecret_80 : decode c_DA_readSecret 80 = .ok (.iconst 0, 1) := by decide +kernel
theorem dDA_readSecret_81 : decode c_DA_readSecret 81 = .ok (.istore 4, 2) := by decide +kernel
theorem dDA_readSecret_83 : decode c_DA_readSecret 83 = .ok (.iload 4, 2) := by decide +kernel
theorem dDA_readSecret_85 : decode c_DA_readSecret 85 = .ok (.aload_n 1, 1) := by decide +kernel
theorem dDA_readSecret_86 : decode c_DA_readSecret 86 = .ok (.getfield 87, 3) := by decide +kernel
theorem dDA_readSecret_89 : decode c_DA_readSecret 89 = .ok (.if_icmp .ge 54, 3) := by decide +kernel
theorem dDA_readSecret_92 : decode c_DA_readSecret 92 = .ok (.aload_n 0, 1) := by decide +kernel
theorem dDA_readSecret_93 : decode c_DA_readSecret 93 = .ok (.aload_n 0, 1) := by decide +kernel
theorem dDA_readSecret_94 : decode c_DA_readSecret 94 = .ok (.getfield 41, 3) := by decide +kernel
theorem dDA_readSecret_97 : decode c_DA_readSecret 97 = .ok (.iload 4, 2) := by decide +kernel
theorem dDA_readSecret_99 : decode c_DA_readSecret 99 = .ok (.aaload, 1) := by decide +kernel
theorem dDA_readSecret_100 : decode c_DA_readSecret 100 = .ok (.aload_n 1, 1) := by decide +kernel
theorem dDA_readSecret_101 : decode c_DA_readSecret 101 = .ok (.getfield 123, 3) := by decide +kernel
theorem dDA_readSecret_104 : decode c_DA_readSecret 104 = .ok (.aload_n 1, 1) := by decide +kernel
theorem dDA_readSecret_105 : decode c_DA_readSecret 105 = .ok (.getfield 154, 3) := by decide +kernel
theorem dDA_readSecret_108 : decode c_DA_readSecret 108 = .ok (.aload_n 2, 1) := by decide +kernel
theorem dDA_readSecret_109 : decode c_DA_readSecret 109 = .ok (.iload_n 3, 1) := by decide +kernel
theorem dDA_readSecret_110 : decode c_DA_readSecret 110 = .ok (.invokevirtual 185, 3) := by decide +kernel
theorem dDA_readSecret_113 : decode c_DA_readSecret 113 = .ok (.aload_n 0, 1) := by decide +kernel
theorem dDA_readSecret_114 : decode c_DA_readSecret 114 = .ok (.getfield 22, 3) := by decide +kernel
theorem dDA_readSecret_117 : decode c_DA_readSecret 117 = .ok (.aload_n 0, 1) := by decide +kernel
theorem dDA_readSecret_118 : decode c_DA_readSecret 118 = .ok (.getfield 41, 3) := by decide +kernel
theorem dDA_readSecret_121 : decode c_DA_readSecret 121 = .ok (.iload 4, 2) := by decide +kernel
theorem dDA_readSecret_123 : decode c_DA_readSecret 123 = .ok (.aaload, 1) := by decide +kernel
theorem dDA_readSecret_124 : decode c_DA_readSecret 124 = .ok (.invokevirtual 119, 3) := by decide +kernel
theorem dDA_readSecret_127 : decode c_DA_readSecret 127 = .ok (.iload_n 3, 1) := by decide +kernel
theorem dDA_readSecret_128 : decode c_DA_readSecret 128 = .ok (.bipush 32, 2) := by decide +kernel
theorem dDA_readSecret_130 : decode c_DA_readSecret 130 = .ok (.aload_n 1, 1) := by decide +kernel
theorem dDA_readSecret_131 : decode c_DA_readSecret 131 = .ok (.getfield 123, 3) := by decide +kernel
theorem dDA_readSecret_134 : decode c_DA_readSecret 134 = .ok (.imul, 1) := by decide +kernel
theorem dDA_readSecret_135 : decode c_DA_readSecret 135 = .ok (.iadd, 1) := by decide +kernel
theorem dDA_readSecret_136 : decode c_DA_readSecret 136 = .ok (.istore_n 3, 1) := by decide +kernel
theorem dDA_readSecret_137 : decode c_DA_readSecret 137 = .ok (.iinc 4 1, 3) := by decide +kernel
theorem dDA_readSecret_140 : decode c_DA_readSecret 140 = .ok (.goto (-57), 3) := by decide +kernel
theorem dDA_readSecret_143 : decode c_DA_readSecret 143 = .ok (.iconst 0, 1) := by decide +kernel
theorem dDA_readSecret_144 : decode c_DA_readSecret 144 = .ok (.istore 4, 2) := by decide +kernel
theorem dDA_readSecret_146 : decode c_DA_readSecret 146 = .ok (.iload 4, 2) := by decide +kernel
theorem dDA_readSecret_148 : decode c_DA_readSecret 148 = .ok (.aload_n 1, 1) := by decide +kernel
theorem dDA_readSecret_149 : decode c_DA_readSecret 149 = .ok (.getfield 87, 3) := by decide +kernel
theorem dDA_readSecret_152 : decode c_DA_readSecret 152 = .ok (.if_icmp .ge 47, 3) := by decide +kernel
theorem dDA_readSecret_155 : decode c_DA_readSecret 155 = .ok (.aload_n 0, 1) := by decide +kernel
theorem dDA_readSecret_156 : decode c_DA_readSecret 156 = .ok (.aload_n 0, 1) := by decide +kernel
theorem dDA_readSecret_157 : decode c_DA_readSecret 157 = .ok (.getfield 44, 3) := by decide +kernel
theorem dDA_readSecret_160 : decode c_DA_readSecret 160 = .ok (.iload 4, 2) := by decide +kernel
theorem dDA_readSecret_162 : decode c_DA_readSecret 162 = .ok (.aaload, 1) := by decide +kernel
theorem dDA_readSecret_163 : decode c_DA_readSecret 163 = .ok (.bipush 13, 2) := by decide +kernel
theorem dDA_readSecret_165 : decode c_DA_readSecret 165 = .ok (.sipush 4096, 3) := by decide +kernel
theorem dDA_readSecret_168 : decode c_DA_readSecret 168 = .ok (.aload_n 2, 1) := by decide +kernel
theorem dDA_readSecret_169 : decode c_DA_readSecret 169 = .ok (.iload_n 3, 1) := by decide +kernel
theorem dDA_readSecret_170 : decode c_DA_readSecret 170 = .ok (.invokevirtual 185, 3) := by decide +kernel
theorem dDA_readSecret_173 : decode c_DA_readSecret 173 = .ok (.aload_n 0, 1) := by decide +kernel
theorem dDA_readSecret_174 : decode c_DA_readSecret 174 = .ok (.getfield 22, 3) := by decide +kernel
theorem dDA_readSecret_177 : decode c_DA_readSecret 177 = .ok (.aload_n 0, 1) := by decide +kernel
theorem dDA_readSecret_178 : decode c_DA_readSecret 178 = .ok (.getfield 44, 3) := by decide +kernel
theorem dDA_readSecret_181 : decode c_DA_readSecret 181 = .ok (.iload 4, 2) := by decide +kernel
theorem dDA_readSecret_183 : decode c_DA_readSecret 183 = .ok (.aaload, 1) := by decide +kernel
theorem dDA_readSecret_184 : decode c_DA_readSecret 184 = .ok (.invokevirtual 119, 3) := by decide +kernel
theorem dDA_readSecret_187 : decode c_DA_readSecret 187 = .ok (.iinc 3 416, 6) := by decide +kernel
theorem dDA_readSecret_193 : decode c_DA_readSecret 193 = .ok (.iinc 4 1, 3) := by decide +kernel
theorem dDA_readSecret_196 : decode c_DA_readSecret 196 = .ok (.goto (-50), 3) := by decide +kernel
theorem dDA_readSecret_199 : decode c_DA_readSecret 199 = .ok (.return_, 1) := by decide +kernel
abbrev c_DA_writeSmallVectors : ByteArray := prog_3_method_3_code
abbrev y_DA_writeSmallVectors : MethodName := ⟨"LatticeKeys$Dsa", "writeSmallVectors", "(LLatticeKeys$DsaSet;[B)V"⟩
abbrev w_DA_writeSmallVectors : List Cond := Cond.code y_DA_writeSmallVectors c_DA_writeSmallVectors 6 none :: WG
theorem dDA_writeSmallVectors_0 : decode c_DA_writeSmallVectors 0 = .ok (.bipush 32, 2) := by decide +kernel
theorem dDA_writeSmallVectors_2 : decode c_DA_writeSmallVectors 2 = .ok (.aload_n 1, 1) := by decide +kernel
theorem dDA_writeSmallVectors_3 : decode c_DA_writeSmallVectors 3 = .ok (.getfield 123, 3) := by decide +kernel
theorem dDA_writeSmallVectors_6 : decode c_DA_writeSmallVectors 6 = .ok (.imul, 1) := by decide +kernel
theorem dDA_writeSmallVectors_7 : decode c_DA_writeSmallVectors 7 = .ok (.istore_n 3, 1) := by decide +kernel
theorem dDA_writeSmallVectors_8 : decode c_DA_writeSmallVectors 8 = .ok (.iconst 0, 1) := by decide +kernel
theorem dDA_writeSmallVectors_9 : decode c_DA_writeSmallVectors 9 = .ok (.istore 4, 2) := by decide +kernel
theorem dDA_writeSmallVectors_11 : decode c_DA_writeSmallVectors 11 = .ok (.iload 4, 2) := by decide +kernel
theorem dDA_writeSmallVectors_13 : decode c_DA_writeSmallVectors 13 = .ok (.aload_n 1, 1) := by decide +kernel
theorem dDA_writeSmallVectors_14 : decode c_DA_writeSmallVectors 14 = .ok (.getfield 96, 3) := by decide +kernel
theorem dDA_writeSmallVectors_17 : decode c_DA_writeSmallVectors 17 = .ok (.aload_n 1, 1) := by decide +kernel
theorem dDA_writeSmallVectors_18 : decode c_DA_writeSmallVectors 18 = .ok (.getfield 87, 3) := by decide +kernel
theorem dDA_writeSmallVectors_21 : decode c_DA_writeSmallVectors 21 = .ok (.iadd, 1) := by decide +kernel
theorem dDA_writeSmallVectors_22 : decode c_DA_writeSmallVectors 22 = .ok (.if_icmp .ge 97, 3) := by decide +kernel
theorem dDA_writeSmallVectors_25 : decode c_DA_writeSmallVectors 25 = .ok (.iload 4, 2) := by decide +kernel
theorem dDA_writeSmallVectors_27 : decode c_DA_writeSmallVectors 27 = .ok (.aload_n 1, 1) := by decide +kernel
theorem dDA_writeSmallVectors_28 : decode c_DA_writeSmallVectors 28 = .ok (.getfield 96, 3) := by decide +kernel
theorem dDA_writeSmallVectors_31 : decode c_DA_writeSmallVectors 31 = .ok (.if_icmp .ge 13, 3) := by decide +kernel
theorem dDA_writeSmallVectors_34 : decode c_DA_writeSmallVectors 34 = .ok (.aload_n 0, 1) := by decide +kernel
theorem dDA_writeSmallVectors_35 : decode c_DA_writeSmallVectors 35 = .ok (.getfield 38, 3) := by decide +kernel
theorem dDA_writeSmallVectors_38 : decode c_DA_writeSmallVectors 38 = .ok (.iload 4, 2) := by decide +kernel
theorem dDA_writeSmallVectors_40 : decode c_DA_writeSmallVectors 40 = .ok (.aaload, 1) := by decide +kernel
theorem dDA_writeSmallVectors_41 : decode c_DA_writeSmallVectors 41 = .ok (.goto 15, 3) := by decide +kernel
theorem dDA_writeSmallVectors_44 : decode c_DA_writeSmallVectors 44 = .ok (.aload_n 0, 1) := by decide +kernel
theorem dDA_writeSmallVectors_45 : decode c_DA_writeSmallVectors 45 = .ok (.getfield 41, 3) := by decide +kernel
theorem dDA_writeSmallVectors_48 : decode c_DA_writeSmallVectors 48 = .ok (.iload 4, 2) := by decide +kernel
theorem dDA_writeSmallVectors_50 : decode c_DA_writeSmallVectors 50 = .ok (.aload_n 1, 1) := by decide +kernel
theorem dDA_writeSmallVectors_51 : decode c_DA_writeSmallVectors 51 = .ok (.getfield 96, 3) := by decide +kernel
theorem dDA_writeSmallVectors_54 : decode c_DA_writeSmallVectors 54 = .ok (.isub, 1) := by decide +kernel
theorem dDA_writeSmallVectors_55 : decode c_DA_writeSmallVectors 55 = .ok (.aaload, 1) := by decide +kernel
theorem dDA_writeSmallVectors_56 : decode c_DA_writeSmallVectors 56 = .ok (.astore 5, 2) := by decide +kernel
theorem dDA_writeSmallVectors_58 : decode c_DA_writeSmallVectors 58 = .ok (.aload_n 0, 1) := by decide +kernel
theorem dDA_writeSmallVectors_59 : decode c_DA_writeSmallVectors 59 = .ok (.getfield 29, 3) := by decide +kernel
theorem dDA_writeSmallVectors_62 : decode c_DA_writeSmallVectors 62 = .ok (.aload_n 1, 1) := by decide +kernel
theorem dDA_writeSmallVectors_63 : decode c_DA_writeSmallVectors 63 = .ok (.aload 5, 2) := by decide +kernel
theorem dDA_writeSmallVectors_65 : decode c_DA_writeSmallVectors 65 = .ok (.aload_n 0, 1) := by decide +kernel
theorem dDA_writeSmallVectors_66 : decode c_DA_writeSmallVectors 66 = .ok (.getfield 60, 3) := by decide +kernel
theorem dDA_writeSmallVectors_69 : decode c_DA_writeSmallVectors 69 = .ok (.bipush 32, 2) := by decide +kernel
theorem dDA_writeSmallVectors_71 : decode c_DA_writeSmallVectors 71 = .ok (.iload 4, 2) := by decide +kernel
theorem dDA_writeSmallVectors_73 : decode c_DA_writeSmallVectors 73 = .ok (.invokevirtual 150, 3) := by decide +kernel
theorem dDA_writeSmallVectors_76 : decode c_DA_writeSmallVectors 76 = .ok (.aload_n 0, 1) := by decide +kernel
theorem dDA_writeSmallVectors_77 : decode c_DA_writeSmallVectors 77 = .ok (.getfield 22, 3) := by decide +kernel
theorem dDA_writeSmallVectors_80 : decode c_DA_writeSmallVectors 80 = .ok (.aload 5, 2) := by decide +kernel
theorem dDA_writeSmallVectors_82 : decode c_DA_writeSmallVectors 82 = .ok (.aload_n 1, 1) := by decide +kernel
theorem dDA_writeSmallVectors_83 : decode c_DA_writeSmallVectors 83 = .ok (.getfield 154, 3) := by decide +kernel
theorem dDA_writeSmallVectors_86 : decode c_DA_writeSmallVectors 86 = .ok (.aload_n 0, 1) := by decide +kernel
theorem dDA_writeSmallVectors_87 : decode c_DA_writeSmallVectors 87 = .ok (.getfield 57, 3) := by decide +kernel
theorem dDA_writeSmallVectors_90 : decode c_DA_writeSmallVectors 90 = .ok (.invokevirtual 157, 3) := by decide +kernel
theorem dDA_writeSmallVectors_93 : decode c_DA_writeSmallVectors 93 = .ok (.aload_n 0, 1) := by decide +kernel
theorem dDA_writeSmallVectors_94 : decode c_DA_writeSmallVectors 94 = .ok (.getfield 57, 3) := by decide +kernel
theorem dDA_writeSmallVectors_97 : decode c_DA_writeSmallVectors 97 = .ok (.aload_n 1, 1) := by decide +kernel
theorem dDA_writeSmallVectors_98 : decode c_DA_writeSmallVectors 98 = .ok (.getfield 123, 3) := by decide +kernel
theorem dDA_writeSmallVectors_101 : decode c_DA_writeSmallVectors 101 = .ok (.aload_n 2, 1) := by decide +kernel
theorem dDA_writeSmallVectors_102 : decode c_DA_writeSmallVectors 102 = .ok (.sipush 128, 3) := by decide +kernel
theorem dDA_writeSmallVectors_105 : decode c_DA_writeSmallVectors 105 = .ok (.iload_n 3, 1) := by decide +kernel
theorem dDA_writeSmallVectors_106 : decode c_DA_writeSmallVectors 106 = .ok (.iload 4, 2) := by decide +kernel
theorem dDA_writeSmallVectors_108 : decode c_DA_writeSmallVectors 108 = .ok (.imul, 1) := by decide +kernel
theorem dDA_writeSmallVectors_109 : decode c_DA_writeSmallVectors 109 = .ok (.iadd, 1) := by decide +kernel
theorem dDA_writeSmallVectors_110 : decode c_DA_writeSmallVectors 110 = .ok (.invokestatic 140, 3) := by decide +kernel
theorem dDA_writeSmallVectors_113 : decode c_DA_writeSmallVectors 113 = .ok (.iinc 4 1, 3) := by decide +kernel
theorem dDA_writeSmallVectors_116 : decode c_DA_writeSmallVectors 116 = .ok (.goto (-105), 3) := by decide +kernel
theorem dDA_writeSmallVectors_119 : decode c_DA_writeSmallVectors 119 = .ok (.return_, 1) := by decide +kernel
abbrev c_DA_makePair : ByteArray := prog_3_method_2_code
abbrev y_DA_makePair : MethodName := ⟨"LatticeKeys$Dsa", "makePair", "(LLatticeKeys$DsaSet;[B[B[B)V"⟩
abbrev w_DA_makePair : List Cond := Cond.code y_DA_makePair c_DA_makePair 7 none :: WG
theorem dDA_makePair_0 : decode c_DA_makePair 0 = .ok (.aload_n 0, 1) := by decide +kernel
theorem dDA_makePair_1 : decode c_DA_makePair 1 = .ok (.getfield 10, 3) := by decide +kernel
theorem dDA_makePair_4 : decode c_DA_makePair 4 = .ok (.iconst 3, 1) := by decide +kernel
theorem dDA_makePair_5 : decode c_DA_makePair 5 = .ok (.invokevirtual 79, 3) := by decide +kernel
theorem dDA_makePair_8 : decode c_DA_makePair 8 = .ok (.aload_n 0, 1) := by decide +kernel
theorem dDA_makePair_9 : decode c_DA_makePair 9 = .ok (.getfield 10, 3) := by decide +kernel
theorem dDA_makePair_12 : decode c_DA_makePair 12 = .ok (.aload_n 2, 1) := by decide +kernel
theorem dDA_makePair_13 : decode c_DA_makePair 13 = .ok (.iconst 0, 1) := by decide +kernel
theorem dDA_makePair_14 : decode c_DA_makePair 14 = .ok (.bipush 32, 2) := by decide +kernel
theorem dDA_makePair_16 : decode c_DA_makePair 16 = .ok (.invokevirtual 83, 3) := by decide +kernel
theorem dDA_makePair_19 : decode c_DA_makePair 19 = .ok (.aload_n 0, 1) := by decide +kernel
theorem dDA_makePair_20 : decode c_DA_makePair 20 = .ok (.getfield 10, 3) := by decide +kernel
theorem dDA_makePair_23 : decode c_DA_makePair 23 = .ok (.aload_n 1, 1) := by decide +kernel
theorem dDA_makePair_24 : decode c_DA_makePair 24 = .ok (.getfield 87, 3) := by decide +kernel
theorem dDA_makePair_27 : decode c_DA_makePair 27 = .ok (.invokevirtual 93, 3) := by decide +kernel
theorem dDA_makePair_30 : decode c_DA_makePair 30 = .ok (.aload_n 0, 1) := by decide +kernel
theorem dDA_makePair_31 : decode c_DA_makePair 31 = .ok (.getfield 10, 3) := by decide +kernel
theorem dDA_makePair_34 : decode c_DA_makePair 34 = .ok (.aload_n 1, 1) := by decide +kernel
theorem dDA_makePair_35 : decode c_DA_makePair 35 = .ok (.getfield 96, 3) := by decide +kernel
theorem dDA_makePair_38 : decode c_DA_makePair 38 = .ok (.invokevirtual 93, 3) := by decide +kernel
theorem dDA_makePair_41 : decode c_DA_makePair 41 = .ok (.aload_n 0, 1) := by decide +kernel
theorem dDA_makePair_42 : decode c_DA_makePair 42 = .ok (.getfield 10, 3) := by decide +kernel
theorem dDA_makePair_45 : decode c_DA_makePair 45 = .ok (.invokevirtual 99, 3) := by decide +kernel
theorem dDA_makePair_48 : decode c_DA_makePair 48 = .ok (.aload_n 0, 1) := by decide +kernel
theorem dDA_makePair_49 : decode c_DA_makePair 49 = .ok (.getfield 10, 3) := by decide +kernel
theorem dDA_makePair_52 : decode c_DA_makePair 52 = .ok (.aload_n 0, 1) := by decide +kernel
theorem dDA_makePair_53 : decode c_DA_makePair 53 = .ok (.getfield 60, 3) := by decide +kernel
theorem dDA_makePair_56 : decode c_DA_makePair 56 = .ok (.iconst 0, 1) := by decide +kernel
theorem dDA_makePair_57 : decode c_DA_makePair 57 = .ok (.sipush 128, 3) := by decide +kernel
theorem dDA_makePair_60 : decode c_DA_makePair 60 = .ok (.invokevirtual 102, 3) := by decide +kernel
theorem dDA_makePair_63 : decode c_DA_makePair 63 = .ok (.aload_n 0, 1) := by decide +kernel
theorem dDA_makePair_64 : decode c_DA_makePair 64 = .ok (.getfield 60, 3) := by decide +kernel
theorem dDA_makePair_67 : decode c_DA_makePair 67 = .ok (.iconst 0, 1) := by decide +kernel
theorem dDA_makePair_68 : decode c_DA_makePair 68 = .ok (.aload_n 3, 1) := by decide +kernel
theorem dDA_makePair_69 : decode c_DA_makePair 69 = .ok (.iconst 0, 1) := by decide +kernel
theorem dDA_makePair_70 : decode c_DA_makePair 70 = .ok (.bipush 32, 2) := by decide +kernel
theorem dDA_makePair_72 : decode c_DA_makePair 72 = .ok (.invokestatic 105, 3) := by decide +kernel
theorem dDA_makePair_75 : decode c_DA_makePair 75 = .ok (.aload_n 0, 1) := by decide +kernel
theorem dDA_makePair_76 : decode c_DA_makePair 76 = .ok (.getfield 60, 3) := by decide +kernel
theorem dDA_makePair_79 : decode c_DA_makePair 79 = .ok (.iconst 0, 1) := by decide +kernel
theorem dDA_makePair_80 : decode c_DA_makePair 80 = .ok (.aload 4, 2) := by decide +kernel
theorem dDA_makePair_82 : decode c_DA_makePair 82 = .ok (.iconst 0, 1) := by decide +kernel
theorem dDA_makePair_83 : decode c_DA_makePair 83 = .ok (.bipush 32, 2) := by decide +kernel
theorem dDA_makePair_85 : decode c_DA_makePair 85 = .ok (.invokestatic 105, 3) := by decide +kernel
theorem dDA_makePair_88 : decode c_DA_makePair 88 = .ok (.aload_n 0, 1) := by decide +kernel
theorem dDA_makePair_89 : decode c_DA_makePair 89 = .ok (.getfield 60, 3) := by decide +kernel
theorem dDA_makePair_92 : decode c_DA_makePair 92 = .ok (.bipush 96, 2) := by decide +kernel
theorem dDA_makePair_94 : decode c_DA_makePair 94 = .ok (.aload 4, 2) := by decide +kernel
theorem dDA_makePair_96 : decode c_DA_makePair 96 = .ok (.bipush 32, 2) := by decide +kernel
theorem dDA_makePair_98 : decode c_DA_makePair 98 = .ok (.bipush 32, 2) := by decide +kernel
theorem dDA_makePair_100 : decode c_DA_makePair 100 = .ok (.invokestatic 105, 3) := by decide +kernel
theorem dDA_makePair_103 : decode c_DA_makePair 103 = .ok (.aload_n 0, 1) := by decide +kernel
theorem dDA_makePair_104 : decode c_DA_makePair 104 = .ok (.aload_n 1, 1) := by decide +kernel
theorem dDA_makePair_105 : decode c_DA_makePair 105 = .ok (.aload 4, 2) := by decide +kernel
theorem dDA_makePair_107 : decode c_DA_makePair 107 = .ok (.invokevirtual 111, 3) := by decide +kernel
theorem dDA_makePair_110 : decode c_DA_makePair 110 = .ok (.aload_n 0, 1) := by decide +kernel
theorem dDA_makePair_111 : decode c_DA_makePair 111 = .ok (.getfield 29, 3) := by decide +kernel
theorem dDA_makePair_114 : decode c_DA_makePair 114 = .ok (.aload_n 1, 1) := by decide +kernel
theorem dDA_makePair_115 : decode c_DA_makePair 115 = .ok (.aload_n 3, 1) := by decide +kernel
theorem dDA_makePair_116 : decode c_DA_makePair 116 = .ok (.aload_n 0, 1) := by decide +kernel
theorem dDA_makePair_117 : decode c_DA_makePair 117 = .ok (.getfield 35, 3) := by decide +kernel
theorem dDA_makePair_120 : decode c_DA_makePair 120 = .ok (.invokevirtual 115, 3) := by decide +kernel
theorem dDA_makePair_123 : decode c_DA_makePair 123 = .ok (.iconst 0, 1) := by decide +kernel
theorem dDA_makePair_124 : decode c_DA_makePair 124 = .ok (.istore 5, 2) := by decide +kernel
theorem dDA_makePair_126 : decode c_DA_makePair 126 = .ok (.iload 5, 2) := by decide +kernel
theorem dDA_makePair_128 : decode c_DA_makePair 128 = .ok (.aload_n 1, 1) := by decide +kernel
theorem dDA_makePair_129 : decode c_DA_makePair 129 = .ok (.getfield 96, 3) := by decide +kernel
theorem dDA_makePair_132 : decode c_DA_makePair 132 = .ok (.if_icmp .ge 23, 3) := by decide +kernel
theorem dDA_makePair_135 : decode c_DA_makePair 135 = .ok (.aload_n 0, 1) := by decide +kernel
theorem dDA_makePair_136 : decode c_DA_makePair 136 = .ok (.getfield 22, 3) := by decide +kernel
theorem dDA_makePair_139 : decode c_DA_makePair 139 = .ok (.aload_n 0, 1) := by decide +kernel
theorem dDA_makePair_140 : decode c_DA_makePair 140 = .ok (.getfield 38, 3) := by decide +kernel
theorem dDA_makePair_143 : decode c_DA_makePair 143 = .ok (.iload 5, 2) := by decide +kernel
theorem dDA_makePair_145 : decode c_DA_makePair 145 = .ok (.aaload, 1) := by decide +kernel
theorem dDA_makePair_146 : decode c_DA_makePair 146 = .ok (.invokevirtual 119, 3) := by decide +kernel
theorem dDA_makePair_149 : decode c_DA_makePair 149 = .ok (.iinc 5 1, 3) := by decide +kernel
theorem dDA_makePair_152 : decode c_DA_makePair 152 = .ok (.goto (-26), 3) := by decide +kernel
theorem dDA_makePair_155 : decode c_DA_makePair 155 = .ok (.sipush 128, 3) := by decide +kernel
theorem dDA_makePair_158 : decode c_DA_makePair 158 = .ok (.bipush 32, 2) := by decide +kernel
theorem dDA_makePair_160 : decode c_DA_makePair 160 = .ok (.aload_n 1, 1) := by decide +kernel
theorem dDA_makePair_161 : decode c_DA_makePair 161 = .ok (.getfield 123, 3) := by decide +kernel
theorem dDA_makePair_164 : decode c_DA_makePair 164 = .ok (.imul, 1) := by decide +kernel
theorem dDA_makePair_165 : decode c_DA_makePair 165 = .ok (.aload_n 1, 1) := by decide +kernel
theorem dDA_makePair_166 : decode c_DA_makePair 166 = .ok (.getfield 87, 3) := by decide +kernel
theorem dDA_makePair_169 : decode c_DA_makePair 169 = .ok (.aload_n 1, 1) := by decide +kernel
theorem dDA_makePair_170 : decode c_DA_makePair 170 = .ok (.getfield 96, 3) := by decide +kernel
theorem dDA_makePair_173 : decode c_DA_makePair 173 = .ok (.iadd, 1) := by decide +kernel
theorem dDA_makePair_174 : decode c_DA_makePair 174 = .ok (.imul, 1) := by decide +kernel
theorem dDA_makePair_175 : decode c_DA_makePair 175 = .ok (.iadd, 1) := by decide +kernel
theorem dDA_makePair_176 : decode c_DA_makePair 176 = .ok (.istore 5, 2) := by decide +kernel
theorem dDA_makePair_178 : decode c_DA_makePair 178 = .ok (.iconst 0, 1) := by decide +kernel
theorem dDA_makePair_179 : decode c_DA_makePair 179 = .ok (.istore 6, 2) := by decide +kernel
theorem dDA_makePair_181 : decode c_DA_makePair 181 = .ok (.iload 6, 2) := by decide +kernel
theorem dDA_makePair_183 : decode c_DA_makePair 183 = .ok (.aload_n 1, 1) := by decide +kernel
theorem dDA_makePair_184 : decode c_DA_makePair 184 = .ok (.getfield 87, 3) := by decide +kernel
theorem dDA_makePair_187 : decode c_DA_makePair 187 = .ok (.if_icmp .ge 108, 3) := by decide +kernel
theorem dDA_makePair_190 : decode c_DA_makePair 190 = .ok (.aload_n 0, 1) := by decide +kernel
theorem dDA_makePair_191 : decode c_DA_makePair 191 = .ok (.aload_n 1, 1) := by decide +kernel
theorem dDA_makePair_192 : decode c_DA_makePair 192 = .ok (.iload 6, 2) := by decide +kernel
theorem dDA_makePair_194 : decode c_DA_makePair 194 = .ok (.aload_n 0, 1) := by decide +kernel
theorem dDA_makePair_195 : decode c_DA_makePair 195 = .ok (.getfield 38, 3) := by decide +kernel
theorem dDA_makePair_198 : decode c_DA_makePair 198 = .ok (.invokevirtual 126, 3) := by decide +kernel
theorem dDA_makePair_201 : decode c_DA_makePair 201 = .ok (.aload_n 0, 1) := by decide +kernel
theorem dDA_makePair_202 : decode c_DA_makePair 202 = .ok (.getfield 22, 3) := by decide +kernel
theorem dDA_makePair_205 : decode c_DA_makePair 205 = .ok (.aload_n 0, 1) := by decide +kernel
theorem dDA_makePair_206 : decode c_DA_makePair 206 = .ok (.getfield 50, 3) := by decide +kernel
theorem dDA_makePair_209 : decode c_DA_makePair 209 = .ok (.iload 6, 2) := by decide +kernel
theorem dDA_makePair_211 : decode c_DA_makePair 211 = .ok (.aaload, 1) := by decide +kernel
theorem dDA_makePair_212 : decode c_DA_makePair 212 = .ok (.invokevirtual 130, 3) := by decide +kernel
theorem dDA_makePair_215 : decode c_DA_makePair 215 = .ok (.aload_n 0, 1) := by decide +kernel
theorem dDA_makePair_216 : decode c_DA_makePair 216 = .ok (.getfield 22, 3) := by decide +kernel
theorem dDA_makePair_219 : decode c_DA_makePair 219 = .ok (.aload_n 0, 1) := by decide +kernel
theorem dDA_makePair_220 : decode c_DA_makePair 220 = .ok (.getfield 50, 3) := by decide +kernel
theorem dDA_makePair_223 : decode c_DA_makePair 223 = .ok (.iload 6, 2) := by decide +kernel
theorem dDA_makePair_225 : decode c_DA_makePair 225 = .ok (.aaload, 1) := by decide +kernel
theorem dDA_makePair_226 : decode c_DA_makePair 226 = .ok (.aload_n 0, 1) := by decide +kernel
theorem dDA_makePair_227 : decode c_DA_makePair 227 = .ok (.getfield 41, 3) := by decide +kernel
theorem dDA_makePair_230 : decode c_DA_makePair 230 = .ok (.iload 6, 2) := by decide +kernel
theorem dDA_makePair_232 : decode c_DA_makePair 232 = .ok (.aaload, 1) := by decide +kernel
theorem dDA_makePair_233 : decode c_DA_makePair 233 = .ok (.invokevirtual 133, 3) := by decide +kernel
theorem dDA_makePair_236 : decode c_DA_makePair 236 = .ok (.aload_n 0, 1) := by decide +kernel
theorem dDA_makePair_237 : decode c_DA_makePair 237 = .ok (.aload_n 0, 1) := by decide +kernel
theorem dDA_makePair_238 : decode c_DA_makePair 238 = .ok (.getfield 50, 3) := by decide +kernel
theorem dDA_makePair_241 : decode c_DA_makePair 241 = .ok (.iload 6, 2) := by decide +kernel
theorem dDA_makePair_243 : decode c_DA_makePair 243 = .ok (.aaload, 1) := by decide +kernel
theorem dDA_makePair_244 : decode c_DA_makePair 244 = .ok (.invokevirtual 137, 3) := by decide +kernel
theorem dDA_makePair_247 : decode c_DA_makePair 247 = .ok (.aload_n 0, 1) := by decide +kernel
theorem dDA_makePair_248 : decode c_DA_makePair 248 = .ok (.getfield 50, 3) := by decide +kernel
theorem dDA_makePair_251 : decode c_DA_makePair 251 = .ok (.iload 6, 2) := by decide +kernel
theorem dDA_makePair_253 : decode c_DA_makePair 253 = .ok (.aaload, 1) := by decide +kernel
theorem dDA_makePair_254 : decode c_DA_makePair 254 = .ok (.bipush 10, 2) := by decide +kernel
theorem dDA_makePair_256 : decode c_DA_makePair 256 = .ok (.aload_n 3, 1) := by decide +kernel
theorem dDA_makePair_257 : decode c_DA_makePair 257 = .ok (.bipush 32, 2) := by decide +kernel
theorem dDA_makePair_259 : decode c_DA_makePair 259 = .ok (.sipush 320, 3) := by decide +kernel
theorem dDA_makePair_262 : decode c_DA_makePair 262 = .ok (.iload 6, 2) := by decide +kernel
theorem dDA_makePair_264 : decode c_DA_makePair 264 = .ok (.imul, 1) := by decide +kernel
theorem dDA_makePair_265 : decode c_DA_makePair 265 = .ok (.iadd, 1) := by decide +kernel
theorem dDA_makePair_266 : decode c_DA_makePair 266 = .ok (.invokestatic 140, 3) := by decide +kernel
theorem dDA_makePair_269 : decode c_DA_makePair 269 = .ok (.aload_n 0, 1) := by decide +kernel
theorem dDA_makePair_270 : decode c_DA_makePair 270 = .ok (.getfield 57, 3) := by decide +kernel
theorem dDA_makePair_273 : decode c_DA_makePair 273 = .ok (.bipush 13, 2) := by decide +kernel
theorem dDA_makePair_275 : decode c_DA_makePair 275 = .ok (.aload 4, 2) := by decide +kernel
theorem dDA_makePair_277 : decode c_DA_makePair 277 = .ok (.iload 5, 2) := by decide +kernel
theorem dDA_makePair_279 : decode c_DA_makePair 279 = .ok (.sipush 416, 3) := by decide +kernel
theorem dDA_makePair_282 : decode c_DA_makePair 282 = .ok (.iload 6, 2) := by decide +kernel
theorem dDA_makePair_284 : decode c_DA_makePair 284 = .ok (.imul, 1) := by decide +kernel
theorem dDA_makePair_285 : decode c_DA_makePair 285 = .ok (.iadd, 1) := by decide +kernel
theorem dDA_makePair_286 : decode c_DA_makePair 286 = .ok (.invokestatic 140, 3) := by decide +kernel
theorem dDA_makePair_289 : decode c_DA_makePair 289 = .ok (.iinc 6 1, 3) := by decide +kernel
theorem dDA_makePair_292 : decode c_DA_makePair 292 = .ok (.goto (-111), 3) := by decide +kernel
theorem dDA_makePair_295 : decode c_DA_makePair 295 = .ok (.aload_n 0, 1) := by decide +kernel
theorem dDA_makePair_296 : decode c_DA_makePair 296 = .ok (.aload_n 3, 1) := by decide +kernel
theorem dDA_makePair_297 : decode c_DA_makePair 297 = .ok (.invokevirtual 146, 3) := by decide +kernel
theorem dDA_makePair_300 : decode c_DA_makePair 300 = .ok (.aload_n 0, 1) := by decide +kernel
theorem dDA_makePair_301 : decode c_DA_makePair 301 = .ok (.getfield 64, 3) := by decide +kernel
theorem dDA_makePair_304 : decode c_DA_makePair 304 = .ok (.iconst 0, 1) := by decide +kernel
theorem dDA_makePair_305 : decode c_DA_makePair 305 = .ok (.aload 4, 2) := by decide +kernel
theorem dDA_makePair_307 : decode c_DA_makePair 307 = .ok (.bipush 64, 2) := by decide +kernel
theorem dDA_makePair_309 : decode c_DA_makePair 309 = .ok (.bipush 64, 2) := by decide +kernel
theorem dDA_makePair_311 : decode c_DA_makePair 311 = .ok (.invokestatic 105, 3) := by decide +kernel
theorem dDA_makePair_314 : decode c_DA_makePair 314 = .ok (.return_, 1) := by decide +kernel
def M_DA_digestOf (k : Nat) : Prop := k = 143 ∨ k = 16 ∨ (0 : Nat) = 1
noncomputable def F_DA_digestOf (pb : Nat) (n : Nat) (s : Sto) : Sto := bnd (F_SP_start_3 16 17 s) fun s21 => bnd (F_SP_absorb 16 17 pb n 0 n s21) fun s22 => bnd (F_SP_finish 16 17 s22) fun s23 => bnd (F_SP_squeeze 16 17 143 64 0 64 s23) fun s24 => s24
set_option maxHeartbeats 8000000 in
set_option maxRecDepth 100000 in
theorem N_DA_digestOf (l : Launch) (g : Gd) (sz : Nat) (T : TyN) (s : Sto) (pl : va_W) (hO : okn g T s pl) (hU : inj T) (h0 b : Nat) (pb : Nat) (n : Nat) (k_h0 : T h0 = some 39) (k_b : T b = some pb) (n_b : nsp pb = (1, n, [])) (h2 : n < 65536)  : Met l y_DA_digestOf w_DA_digestOf ({ frames := 3, cells := 0, slots := 0, locals := 100 } : Room) (va_Pc [.ref h0, .ref b] (pr (en g) g.1 vcl sz ([] ++ pl))) (va_Qv (fun (u : (Sto) × va_W) => (u.1 = F_DA_digestOf pb n s ∧ frm (M_DA_digestOf) s u.1 ∧ True) ∧ okn g T u.1 u.2) (po g.1 vcl (va_A ([] ++ pl) sz) (fun (u : (Sto) × va_W) => [] ++ u.2)) (va_A ([] ++ pl) sz)) 0 0 (va_A ([] ++ pl) sz) := by
  refine mc_entry (cc := c_DA_digestOf) (maxL := 2) (ret := none) (by decide) rfl (Nat.le_of_ble_eq_true rfl) ?_
  intro p e s0 m args below meth c ls F hr hlk hnm hsz hP hD hE hA hl
  obtain ⟨hx, hb, hml, hown, hts⟩ := id F
  have hK := hE.1
  generalize va_A ([] ++ pl) sz = A at hD hE hA ⊢
  have hS : va_S A s0.heap s0.heap [] := va_S.rf
  have hl : lv_has ls 2 [(0, .ref h0), (1, .ref b)] := hl
  have hR : F_DA_digestOf pb n s = F_DA_digestOf pb n s := rfl
  have hF : frm (M_DA_digestOf) s s := frm_rf
  refine lv_aload_n hx hb dDA_digestOf_0 rfl (lv_at hl 0 rfl) ?_
  refine nw_get (C := "LatticeKeys$Dsa") (TT := T_DA) (N := 17) hx hb hts (wg_ft i_DA) hown hK hO k_h0 (kn := 39) (ci := 6) (fl := [(3, 16), (3, 22), (3, 37), (3, 40), (3, 97), (3, 105), (3, 114), (3, 123), (3, 131), (3, 140), (3, 141), (3, 142), (3, 143), (3, 144), (3, 145), (3, 146), (3, 147)]) rfl hP rfl 0 (by decide) (hts _ (wg_t kw_165)) (fun _ h9 => h9) (cd := (3, 16)) rfl dDA_digestOf_1 (fun v21 hv21 => ?_)
  obtain ⟨r21, rfl, kr21⟩ := (show ∃ r : Nat, v21 = .ref r ∧ T r = some 16 from hv21)
  refine lv_iconst (v := nI 3) hx hb dDA_digestOf_4 (by decide) ?_
  refine mp_v (cx := []) (wr := []) hP hD hS hA [] [] rfl rfl rfl (by decide) (va_runV (As := [.int (nI 3)]) (rest := []) F (N_SP_start_3 l g _ T s pl hO hU r21 16 17 kr21 rfl rfl) (cwV 1 hts (wg_app (wg_c kw_669 (wg_c kw_579 (wg_c kw_580 (wg_c kw_2 wg_n)))) kw_581) rfl rfl rfl (by decide +kernel) ⟨by decide, by decide⟩) (pn_W "LatticeKeys$Sponge" (en_ok g) (ci := 3) (kn := 16) (fl := [(3, 17), (0, 0), (0, 0), (0, 0)]) hK hO kr21 rfl hP hD hS hA hE [] rfl rfl rfl) rfl rfl hl.1 rfl (lv_room (Nat.le_of_ble_eq_true rfl)) dDA_digestOf_5 ⟨by omega, by omega⟩) (fun  u21 H locs hu21 hP hD hS => ?_)
  obtain ⟨s21, pl⟩ := u21
  obtain ⟨⟨eq21, hFc21, ⟨x21, hx_21, hb_21⟩, ⟨x22, hx_22, hb_22⟩, -⟩, hO⟩ := hu21
  have hO : okn g T s21 pl := hO
  have hP : va_P g.1 vcl ([] ++ pl) _ := hP
  have hD : va_D _ ([] ++ pl) := hD
  have hFc21 : frm (M_SP_start_3 16) s s21 := hFc21
  have hb_21 : x21 = 0 := hb_21
  have hb_22 : x22 = 136 := hb_22
  replace hR := bnd_step hR eq21
  have hF := frm_tr hF hFc21 (fun k hk => by unfold M_SP_start_3 at hk; unfold M_DA_digestOf; omega)
  refine W.widen (k := 0) (n := 0) (by omega) (by omega) ?_
  refine lv_aload_n hx hb dDA_digestOf_8 rfl (lv_at hl 0 rfl) ?_
  refine nw_get (C := "LatticeKeys$Dsa") (TT := T_DA) (N := 17) hx hb hts (wg_ft i_DA) hown hK hO k_h0 (kn := 39) (ci := 6) (fl := [(3, 16), (3, 22), (3, 37), (3, 40), (3, 97), (3, 105), (3, 114), (3, 123), (3, 131), (3, 140), (3, 141), (3, 142), (3, 143), (3, 144), (3, 145), (3, 146), (3, 147)]) rfl hP rfl 0 (by decide) (hts _ (wg_t kw_165)) (fun _ h9 => h9) (cd := (3, 16)) rfl dDA_digestOf_9 (fun v22 hv22 => ?_)
  obtain ⟨r22, rfl, kr22⟩ := (show ∃ r : Nat, v22 = .ref r ∧ T r = some 16 from hv22)
  refine lv_aload_n hx hb dDA_digestOf_12 rfl (lv_at hl 1 rfl) ?_
  refine lv_iconst (v := nI 0) hx hb dDA_digestOf_13 (by decide) ?_
  refine lv_aload_n hx hb dDA_digestOf_14 rfl (lv_at hl 1 rfl) ?_
  refine nw_alen1 hx hb hK hO k_b (k := pb) n_b hP dDA_digestOf_15 ?_
  refine mp_v (cx := []) (wr := []) hP hD hS hA [] [] rfl rfl rfl (by decide) (va_runV (As := [.ref b, .int (nI 0), .int (nI n)]) (rest := []) F (N_SP_absorb l g _ T s21 pl hO hU r22 b 16 17 pb n 0 n x21 x22 kr22 rfl rfl k_b n_b hx_21 hx_22 (by omega) (by omega) (by omega) (by omega)) (cwV 3 hts (wg_app (wg_c kw_670 (wg_c kw_586 (wg_c kw_587 (wg_c kw_2 wg_n)))) kw_588) rfl rfl rfl (by decide +kernel) ⟨by decide, by decide⟩) (pn_W "LatticeKeys$Sponge" (en_ok g) (ci := 3) (kn := 16) (fl := [(3, 17), (0, 0), (0, 0), (0, 0)]) hK hO kr22 rfl hP hD hS hA hE [] rfl rfl rfl) rfl rfl hl.1 rfl (lv_room (Nat.le_of_ble_eq_true rfl)) dDA_digestOf_16 ⟨by omega, by omega⟩) (fun  u22 H locs hu22 hP hD hS => ?_)
  obtain ⟨s22, pl⟩ := u22
  obtain ⟨⟨eq22, hFc22, ⟨x24, hx_24, hb_24⟩, ⟨x25, hx_25, hb_25⟩, -⟩, hO⟩ := hu22
  have hO : okn g T s22 pl := hO
  have hP : va_P g.1 vcl ([] ++ pl) _ := hP
  have hD : va_D _ ([] ++ pl) := hD
  have hFc22 : frm (M_SP_absorb 16) s21 s22 := hFc22
  have hb_24 : x24 < x22 := hb_24
  have hb_25 : x25 = x22 := hb_25
  replace hR := bnd_step hR eq22
  have hF := frm_tr hF hFc22 (fun k hk => by unfold M_SP_absorb at hk; unfold M_DA_digestOf; omega)
  refine W.widen (k := 0) (n := 0) (by omega) (by omega) ?_
  refine lv_aload_n hx hb dDA_digestOf_19 rfl (lv_at hl 0 rfl) ?_
  refine nw_get (C := "LatticeKeys$Dsa") (TT := T_DA) (N := 17) hx hb hts (wg_ft i_DA) hown hK hO k_h0 (kn := 39) (ci := 6) (fl := [(3, 16), (3, 22), (3, 37), (3, 40), (3, 97), (3, 105), (3, 114), (3, 123), (3, 131), (3, 140), (3, 141), (3, 142), (3, 143), (3, 144), (3, 145), (3, 146), (3, 147)]) rfl hP rfl 0 (by decide) (hts _ (wg_t kw_165)) (fun _ h9 => h9) (cd := (3, 16)) rfl dDA_digestOf_20 (fun v23 hv23 => ?_)
  obtain ⟨r23, rfl, kr23⟩ := (show ∃ r : Nat, v23 = .ref r ∧ T r = some 16 from hv23)
  refine mp_v (cx := []) (wr := []) hP hD hS hA [] [] rfl rfl rfl (by decide) (va_runV (As := []) (rest := []) F (N_SP_finish l g _ T s22 pl hO hU r23 16 17 x24 x25 kr23 rfl rfl hx_24 hx_25 (by omega) (by omega)) (cwV 0 hts (wg_app (wg_c kw_672 (wg_c kw_611 (wg_c kw_612 (wg_c kw_2 wg_n)))) kw_613) rfl rfl rfl (by decide +kernel) ⟨by decide, by decide⟩) (pn_W "LatticeKeys$Sponge" (en_ok g) (ci := 3) (kn := 16) (fl := [(3, 17), (0, 0), (0, 0), (0, 0)]) hK hO kr23 rfl hP hD hS hA hE [] rfl rfl rfl) rfl rfl hl.1 rfl (lv_room (Nat.le_of_ble_eq_true rfl)) dDA_digestOf_23 ⟨by omega, by omega⟩) (fun  u23 H locs hu23 hP hD hS => ?_)
  obtain ⟨s23, pl⟩ := u23
  obtain ⟨⟨eq23, hFc23, ⟨x27, hx_27, hb_27⟩, ⟨x28, hx_28, hb_28⟩, -⟩, hO⟩ := hu23
  have hO : okn g T s23 pl := hO
  have hP : va_P g.1 vcl ([] ++ pl) _ := hP
  have hD : va_D _ ([] ++ pl) := hD
  have hFc23 : frm (M_SP_finish 16) s22 s23 := hFc23
  have hb_27 : x27 = x25 := hb_27
  have hb_28 : x28 = x25 := hb_28
  replace hR := bnd_step hR eq23
  have hF := frm_tr hF hFc23 (fun k hk => by unfold M_SP_finish at hk; unfold M_DA_digestOf; omega)
  refine W.widen (k := 0) (n := 0) (by omega) (by omega) ?_
  refine lv_aload_n hx hb dDA_digestOf_26 rfl (lv_at hl 0 rfl) ?_
  refine nw_get (C := "LatticeKeys$Dsa") (TT := T_DA) (N := 17) hx hb hts (wg_ft i_DA) hown hK hO k_h0 (kn := 39) (ci := 6) (fl := [(3, 16), (3, 22), (3, 37), (3, 40), (3, 97), (3, 105), (3, 114), (3, 123), (3, 131), (3, 140), (3, 141), (3, 142), (3, 143), (3, 144), (3, 145), (3, 146), (3, 147)]) rfl hP rfl 0 (by decide) (hts _ (wg_t kw_165)) (fun _ h9 => h9) (cd := (3, 16)) rfl dDA_digestOf_27 (fun v24 hv24 => ?_)
  obtain ⟨r24, rfl, kr24⟩ := (show ∃ r : Nat, v24 = .ref r ∧ T r = some 16 from hv24)
  refine lv_aload_n hx hb dDA_digestOf_30 rfl (lv_at hl 0 rfl) ?_
  refine nw_get (C := "LatticeKeys$Dsa") (TT := T_DA) (N := 17) hx hb hts (wg_ft i_DA) hown hK hO k_h0 (kn := 39) (ci := 6) (fl := [(3, 16), (3, 22), (3, 37), (3, 40), (3, 97), (3, 105), (3, 114), (3, 123), (3, 131), (3, 140), (3, 141), (3, 142), (3, 143), (3, 144), (3, 145), (3, 146), (3, 147)]) rfl hP rfl 12 (by decide) (hts _ (wg_t kw_177)) (fun _ h9 => h9) (cd := (3, 143)) rfl dDA_digestOf_31 (fun v25 hv25 => ?_)
  obtain ⟨r25, rfl, kr25⟩ := (show ∃ r : Nat, v25 = .ref r ∧ T r = some 143 from hv25)
  refine lv_iconst (v := nI 0) hx hb dDA_digestOf_34 (by decide) ?_
  refine lv_bipush (v := nI 64) hx hb dDA_digestOf_35 (by decide) ?_
  refine mp_v (cx := []) (wr := []) hP hD hS hA [] [] rfl rfl rfl (by decide) (va_runV (As := [.ref r25, .int (nI 0), .int (nI 64)]) (rest := []) F (N_SP_squeeze l g _ T s23 pl hO hU r24 r25 16 17 143 64 0 64 x27 x28 kr24 rfl rfl kr25 rfl hx_27 hx_28 (by omega) (by omega) (by omega) (by omega)) (cwV 3 hts (wg_app (wg_c kw_673 (wg_c kw_615 (wg_c kw_616 (wg_c kw_2 wg_n)))) kw_617) rfl rfl rfl (by decide +kernel) ⟨by decide, by decide⟩) (pn_W "LatticeKeys$Sponge" (en_ok g) (ci := 3) (kn := 16) (fl := [(3, 17), (0, 0), (0, 0), (0, 0)]) hK hO kr24 rfl hP hD hS hA hE [] rfl rfl rfl) rfl rfl hl.1 rfl (lv_room (Nat.le_of_ble_eq_true rfl)) dDA_digestOf_37 ⟨by omega, by omega⟩) (fun  u24 H locs hu24 hP hD hS => ?_)
  obtain ⟨s24, pl⟩ := u24
  obtain ⟨⟨eq24, hFc24, ⟨x30, hx_30, hb_30⟩, ⟨x31, hx_31, hb_31⟩, -⟩, hO⟩ := hu24
  have hO : okn g T s24 pl := hO
  have hP : va_P g.1 vcl ([] ++ pl) _ := hP
  have hD : va_D _ ([] ++ pl) := hD
  have hFc24 : frm (M_SP_squeeze 16 143) s23 s24 := hFc24
  have hb_30 : x30 ≤ x28 := hb_30
  have hb_31 : x31 = x28 := hb_31
  replace hR := bnd_step hR eq24
  have hF := frm_tr hF hFc24 (fun k hk => by unfold M_SP_squeeze at hk; unfold M_DA_digestOf; omega)
  refine W.widen (k := 0) (n := 0) (by omega) (by omega) ?_
  exact mp_vret hx hb hr hlk hP hD hS (s24, pl) ⟨⟨hR.symm, hF, trivial⟩, hO⟩ [] rfl rfl rfl (by omega) (by omega) dDA_digestOf_40
def M_DA_digestMessage (k : Nat) : Prop := k = 143 ∨ k = 16 ∨ (0 : Nat) = 1
noncomputable def F_DA_digestMessage (pb : Nat) (n : Nat) (fr : Nat) (to_ : Nat) (cl_ : Int32) (s : Sto) : Sto := bnd (F_SP_start_3 16 17 s) fun s21 => bnd (F_SP_absorb 16 17 143 64 0 64 s21) fun s22 => bnd (F_SP_absorbByte 16 17 (nI 0) s22) fun s23 => bnd (F_SP_absorbByte 16 17 cl_ s23) fun s24 => bnd (F_SP_absorb 16 17 pb n fr (to_ - fr) s24) fun s25 => bnd (F_SP_finish 16 17 s25) fun s26 => bnd (F_SP_squeeze 16 17 143 64 0 64 s26) fun s27 => s27
set_option maxHeartbeats 8000000 in
set_option maxRecDepth 100000 in
theorem N_DA_digestMessage (l : Launch) (g : Gd) (sz : Nat) (T : TyN) (s : Sto) (pl : va_W) (hO : okn g T s pl) (hU : inj T) (h0 b : Nat) (pb : Nat) (n : Nat) (fr : Nat) (to_ : Nat) (cl_ : Int32) (k_h0 : T h0 = some 39) (k_b : T b = some pb) (n_b : nsp pb = (1, n, [])) (h1 : fr ≤ to_) (h3 : to_ ≤ n) (h2 : n < 65536)  : Met l y_DA_digestMessage w_DA_digestMessage ({ frames := 3, cells := 0, slots := 0, locals := 100 } : Room) (va_Pc [.ref h0, .ref b, .int (nI fr), .int (nI to_), .int cl_] (pr (en g) g.1 vcl sz ([] ++ pl))) (va_Qv (fun (u : (Sto) × va_W) => (u.1 = F_DA_digestMessage pb n fr to_ cl_ s ∧ frm (M_DA_digestMessage) s u.1 ∧ True) ∧ okn g T u.1 u.2) (po g.1 vcl (va_A ([] ++ pl) sz) (fun (u : (Sto) × va_W) => [] ++ u.2)) (va_A ([] ++ pl) sz)) 0 0 (va_A ([] ++ pl) sz) := by
  refine mc_entry (cc := c_DA_digestMessage) (maxL := 5) (ret := none) (by decide) rfl (Nat.le_of_ble_eq_true rfl) ?_
  intro p e s0 m args below meth c ls F hr hlk hnm hsz hP hD hE hA hl
  obtain ⟨hx, hb, hml, hown, hts⟩ := id F
  have hK := hE.1
  generalize va_A ([] ++ pl) sz = A at hD hE hA ⊢
  have hS : va_S A s0.heap s0.heap [] := va_S.rf
  have hl : lv_has ls 5 [(0, .ref h0), (1, .ref b), (2, .int (nI fr)), (3, .int (nI to_)), (4, .int cl_)] := hl
  have hR : F_DA_digestMessage pb n fr to_ cl_ s = F_DA_digestMessage pb n fr to_ cl_ s := rfl
  have hF : frm (M_DA_digestMessage) s s := frm_rf
  refine lv_aload_n hx hb dDA_digestMessage_0 rfl (lv_at hl 0 rfl) ?_
  refine nw_get (C := "LatticeKeys$Dsa") (TT := T_DA) (N := 17) hx hb hts (wg_ft i_DA) hown hK hO k_h0 (kn := 39) (ci := 6) (fl := [(3, 16), (3, 22), (3, 37), (3, 40), (3, 97), (3, 105), (3, 114), (3, 123), (3, 131), (3, 140), (3, 141), (3, 142), (3, 143), (3, 144), (3, 145), (3, 146), (3, 147)]) rfl hP rfl 0 (by decide) (hts _ (wg_t kw_165)) (fun _ h9 => h9) (cd := (3, 16)) rfl dDA_digestMessage_1 (fun v21 hv21 => ?_)
  obtain ⟨r21, rfl, kr21⟩ := (show ∃ r : Nat, v21 = .ref r ∧ T r = some 16 from hv21)
  refine lv_iconst (v := nI 3) hx hb dDA_digestMessage_4 (by decide) ?_
  refine mp_v (cx := []) (wr := []) hP hD hS hA [] [] rfl rfl rfl (by decide) (va_runV (As := [.int (nI 3)]) (rest := []) F (N_SP_start_3 l g _ T s pl hO hU r21 16 17 kr21 rfl rfl) (cwV 1 hts (wg_app (wg_c kw_669 (wg_c kw_579 (wg_c kw_580 (wg_c kw_2 wg_n)))) kw_581) rfl rfl rfl (by decide +kernel) ⟨by decide, by decide⟩) (pn_W "LatticeKeys$Sponge" (en_ok g) (ci := 3) (kn := 16) (fl := [(3, 17), (0, 0), (0, 0), (0, 0)]) hK hO kr21 rfl hP hD hS hA hE [] rfl rfl rfl) rfl rfl hl.1 rfl (lv_room (Nat.le_of_ble_eq_true rfl)) dDA_digestMessage_5 ⟨by omega, by omega⟩) (fun  u21 H locs hu21 hP hD hS => ?_)
  obtain ⟨s21, pl⟩ := u21
  obtain ⟨⟨eq21, hFc21, ⟨x21, hx_21, hb_21⟩, ⟨x22, hx_22, hb_22⟩, -⟩, hO⟩ := hu21
  have hO : okn g T s21 pl := hO
  have hP : va_P g.1 vcl ([] ++ pl) _ := hP
  have hD : va_D _ ([] ++ pl) := hD
  have hFc21 : frm (M_SP_start_3 16) s s21 := hFc21
  have hb_21 : x21 = 0 := hb_21
  have hb_22 : x22 = 136 := hb_22
  replace hR := bnd_step hR eq21
  have hF := frm_tr hF hFc21 (fun k hk => by unfold M_SP_start_3 at hk; unfold M_DA_digestMessage; omega)
  refine W.widen (k := 0) (n := 0) (by omega) (by omega) ?_
  refine lv_aload_n hx hb dDA_digestMessage_8 rfl (lv_at hl 0 rfl) ?_
  refine nw_get (C := "LatticeKeys$Dsa") (TT := T_DA) (N := 17) hx hb hts (wg_ft i_DA) hown hK hO k_h0 (kn := 39) (ci := 6) (fl := [(3, 16), (3, 22), (3, 37), (3, 40), (3, 97), (3, 105), (3, 114), (3, 123), (3, 131), (3, 140), (3, 141), (3, 142), (3, 143), (3, 144), (3, 145), (3, 146), (3, 147)]) rfl hP rfl 0 (by decide) (hts _ (wg_t kw_165)) (fun _ h9 => h9) (cd := (3, 16)) rfl dDA_digestMessage_9 (fun v22 hv22 => ?_)
  obtain ⟨r22, rfl, kr22⟩ := (show ∃ r : Nat, v22 = .ref r ∧ T r = some 16 from hv22)
  refine lv_aload_n hx hb dDA_digestMessage_12 rfl (lv_at hl 0 rfl) ?_
  refine nw_get (C := "LatticeKeys$Dsa") (TT := T_DA) (N := 17) hx hb hts (wg_ft i_DA) hown hK hO k_h0 (kn := 39) (ci := 6) (fl := [(3, 16), (3, 22), (3, 37), (3, 40), (3, 97), (3, 105), (3, 114), (3, 123), (3, 131), (3, 140), (3, 141), (3, 142), (3, 143), (3, 144), (3, 145), (3, 146), (3, 147)]) rfl hP rfl 12 (by decide) (hts _ (wg_t kw_177)) (fun _ h9 => h9) (cd := (3, 143)) rfl dDA_digestMessage_13 (fun v23 hv23 => ?_)
  obtain ⟨r23, rfl, kr23⟩ := (show ∃ r : Nat, v23 = .ref r ∧ T r = some 143 from hv23)
  refine lv_iconst (v := nI 0) hx hb dDA_digestMessage_16 (by decide) ?_
  refine lv_bipush (v := nI 64) hx hb dDA_digestMessage_17 (by decide) ?_
  refine mp_v (cx := []) (wr := []) hP hD hS hA [] [] rfl rfl rfl (by decide) (va_runV (As := [.ref r23, .int (nI 0), .int (nI 64)]) (rest := []) F (N_SP_absorb l g _ T s21 pl hO hU r22 r23 16 17 143 64 0 64 x21 x22 kr22 rfl rfl kr23 rfl hx_21 hx_22 (by omega) (by omega) (by omega) (by omega)) (cwV 3 hts (wg_app (wg_c kw_670 (wg_c kw_586 (wg_c kw_587 (wg_c kw_2 wg_n)))) kw_588) rfl rfl rfl (by decide +kernel) ⟨by decide, by decide⟩) (pn_W "LatticeKeys$Sponge" (en_ok g) (ci := 3) (kn := 16) (fl := [(3, 17), (0, 0), (0, 0), (0, 0)]) hK hO kr22 rfl hP hD hS hA hE [] rfl rfl rfl) rfl rfl hl.1 rfl (lv_room (Nat.le_of_ble_eq_true rfl)) dDA_digestMessage_19 ⟨by omega, by omega⟩) (fun  u22 H locs hu22 hP hD hS => ?_)
  obtain ⟨s22, pl⟩ := u22
  obtain ⟨⟨eq22, hFc22, ⟨x24, hx_24, hb_24⟩, ⟨x25, hx_25, hb_25⟩, -⟩, hO⟩ := hu22
  have hO : okn g T s22 pl := hO
  have hP : va_P g.1 vcl ([] ++ pl) _ := hP
  have hD : va_D _ ([] ++ pl) := hD
  have hFc22 : frm (M_SP_absorb 16) s21 s22 := hFc22
  have hb_24 : x24 < x22 := hb_24
  have hb_25 : x25 = x22 := hb_25
  replace hR := bnd_step hR eq22
  have hF := frm_tr hF hFc22 (fun k hk => by unfold M_SP_absorb at hk; unfold M_DA_digestMessage; omega)
  refine W.widen (k := 0) (n := 0) (by omega) (by omega) ?_
  refine lv_aload_n hx hb dDA_digestMessage_22 rfl (lv_at hl 0 rfl) ?_
  refine nw_get (C := "LatticeKeys$Dsa") (TT := T_DA) (N := 17) hx hb hts (wg_ft i_DA) hown hK hO k_h0 (kn := 39) (ci := 6) (fl := [(3, 16), (3, 22), (3, 37), (3, 40), (3, 97), (3, 105), (3, 114), (3, 123), (3, 131), (3, 140), (3, 141), (3, 142), (3, 143), (3, 144), (3, 145), (3, 146), (3, 147)]) rfl hP rfl 0 (by decide) (hts _ (wg_t kw_165)) (fun _ h9 => h9) (cd := (3, 16)) rfl dDA_digestMessage_23 (fun v24 hv24 => ?_)
  obtain ⟨r24, rfl, kr24⟩ := (show ∃ r : Nat, v24 = .ref r ∧ T r = some 16 from hv24)
  refine lv_iconst (v := nI 0) hx hb dDA_digestMessage_26 (by decide) ?_
  refine mp_v (cx := []) (wr := []) hP hD hS hA [] [] rfl rfl rfl (by decide) (va_runV (As := [.int (nI 0)]) (rest := []) F (N_SP_absorbByte l g _ T s22 pl hO hU r24 16 17 (nI 0) x24 x25 kr24 rfl rfl hx_24 hx_25 (by omega) (by omega)) (cwV 1 hts (wg_app (wg_c kw_671 (wg_c kw_590 (wg_c kw_591 (wg_c kw_2 wg_n)))) kw_592) rfl rfl rfl (by decide +kernel) ⟨by decide, by decide⟩) (pn_W "LatticeKeys$Sponge" (en_ok g) (ci := 3) (kn := 16) (fl := [(3, 17), (0, 0), (0, 0), (0, 0)]) hK hO kr24 rfl hP hD hS hA hE [] rfl rfl rfl) rfl rfl hl.1 rfl (lv_room (Nat.le_of_ble_eq_true rfl)) dDA_digestMessage_27 ⟨by omega, by omega⟩) (fun  u23 H locs hu23 hP hD hS => ?_)
  obtain ⟨s23, pl⟩ := u23
  obtain ⟨⟨eq23, hFc23, ⟨x27, hx_27, hb_27⟩, ⟨x28, hx_28, hb_28⟩, -⟩, hO⟩ := hu23
  have hO : okn g T s23 pl := hO
  have hP : va_P g.1 vcl ([] ++ pl) _ := hP
  have hD : va_D _ ([] ++ pl) := hD
  have hFc23 : frm (M_SP_absorbByte 16) s22 s23 := hFc23
  have hb_27 : x27 < x25 := hb_27
  have hb_28 : x28 = x25 := hb_28
  replace hR := bnd_step hR eq23
  have hF := frm_tr hF hFc23 (fun k hk => by unfold M_SP_absorbByte at hk; unfold M_DA_digestMessage; omega)
  refine W.widen (k := 0) (n := 0) (by omega) (by omega) ?_
  refine lv_aload_n hx hb dDA_digestMessage_30 rfl (lv_at hl 0 rfl) ?_
  refine nw_get (C := "LatticeKeys$Dsa") (TT := T_DA) (N := 17) hx hb hts (wg_ft i_DA) hown hK hO k_h0 (kn := 39) (ci := 6) (fl := [(3, 16), (3, 22), (3, 37), (3, 40), (3, 97), (3, 105), (3, 114), (3, 123), (3, 131), (3, 140), (3, 141), (3, 142), (3, 143), (3, 144), (3, 145), (3, 146), (3, 147)]) rfl hP rfl 0 (by decide) (hts _ (wg_t kw_165)) (fun _ h9 => h9) (cd := (3, 16)) rfl dDA_digestMessage_31 (fun v25 hv25 => ?_)
  obtain ⟨r25, rfl, kr25⟩ := (show ∃ r : Nat, v25 = .ref r ∧ T r = some 16 from hv25)
  refine lv_iload hx hb dDA_digestMessage_34 (lv_at hl 4 rfl) ?_
  refine mp_v (cx := []) (wr := []) hP hD hS hA [] [] rfl rfl rfl (by decide) (va_runV (As := [.int cl_]) (rest := []) F (N_SP_absorbByte l g _ T s23 pl hO hU r25 16 17 cl_ x27 x28 kr25 rfl rfl hx_27 hx_28 (by omega) (by omega)) (cwV 1 hts (wg_app (wg_c kw_671 (wg_c kw_590 (wg_c kw_591 (wg_c kw_2 wg_n)))) kw_592) rfl rfl rfl (by decide +kernel) ⟨by decide, by decide⟩) (pn_W "LatticeKeys$Sponge" (en_ok g) (ci := 3) (kn := 16) (fl := [(3, 17), (0, 0), (0, 0), (0, 0)]) hK hO kr25 rfl hP hD hS hA hE [] rfl rfl rfl) rfl rfl hl.1 rfl (lv_room (Nat.le_of_ble_eq_true rfl)) dDA_digestMessage_36 ⟨by omega, by omega⟩) (fun  u24 H locs hu24 hP hD hS => ?_)
  obtain ⟨s24, pl⟩ := u24
  obtain ⟨⟨eq24, hFc24, ⟨x30, hx_30, hb_30⟩, ⟨x31, hx_31, hb_31⟩, -⟩, hO⟩ := hu24
  have hO : okn g T s24 pl := hO
  have hP : va_P g.1 vcl ([] ++ pl) _ := hP
  have hD : va_D _ ([] ++ pl) := hD
  have hFc24 : frm (M_SP_absorbByte 16) s23 s24 := hFc24
  have hb_30 : x30 < x28 := hb_30
  have hb_31 : x31 = x28 := hb_31
  replace hR := bnd_step hR eq24
  have hF := frm_tr hF hFc24 (fun k hk => by unfold M_SP_absorbByte at hk; unfold M_DA_digestMessage; omega)
  refine W.widen (k := 0) (n := 0) (by omega) (by omega) ?_
  refine lv_aload_n hx hb dDA_digestMessage_39 rfl (lv_at hl 0 rfl) ?_
  refine nw_get (C := "LatticeKeys$Dsa") (TT := T_DA) (N := 17) hx hb hts (wg_ft i_DA) hown hK hO k_h0 (kn := 39) (ci := 6) (fl := [(3, 16), (3, 22), (3, 37), (3, 40), (3, 97), (3, 105), (3, 114), (3, 123), (3, 131), (3, 140), (3, 141), (3, 142), (3, 143), (3, 144), (3, 145), (3, 146), (3, 147)]) rfl hP rfl 0 (by decide) (hts _ (wg_t kw_165)) (fun _ h9 => h9) (cd := (3, 16)) rfl dDA_digestMessage_40 (fun v26 hv26 => ?_)
  obtain ⟨r26, rfl, kr26⟩ := (show ∃ r : Nat, v26 = .ref r ∧ T r = some 16 from hv26)
  refine lv_aload_n hx hb dDA_digestMessage_43 rfl (lv_at hl 1 rfl) ?_
  refine lv_iload_n hx hb dDA_digestMessage_44 rfl (lv_at hl 2 rfl) ?_
  refine lv_iload_n hx hb dDA_digestMessage_45 rfl (lv_at hl 3 rfl) ?_
  refine lv_iload_n hx hb dDA_digestMessage_46 rfl (lv_at hl 2 rfl) ?_
  refine mi_isub hx hb dDA_digestMessage_47 (by omega) ?_
  refine mp_v (cx := []) (wr := []) hP hD hS hA [] [] rfl rfl rfl (by decide) (va_runV (As := [.ref b, .int (nI fr), .int (nI (to_ - fr))]) (rest := []) F (N_SP_absorb l g _ T s24 pl hO hU r26 b 16 17 pb n fr (to_ - fr) x30 x31 kr26 rfl rfl k_b n_b hx_30 hx_31 (by omega) (by omega) (by omega) (by omega)) (cwV 3 hts (wg_app (wg_c kw_670 (wg_c kw_586 (wg_c kw_587 (wg_c kw_2 wg_n)))) kw_588) rfl rfl rfl (by decide +kernel) ⟨by decide, by decide⟩) (pn_W "LatticeKeys$Sponge" (en_ok g) (ci := 3) (kn := 16) (fl := [(3, 17), (0, 0), (0, 0), (0, 0)]) hK hO kr26 rfl hP hD hS hA hE [] rfl rfl rfl) rfl rfl hl.1 rfl (lv_room (Nat.le_of_ble_eq_true rfl)) dDA_digestMessage_48 ⟨by omega, by omega⟩) (fun  u25 H locs hu25 hP hD hS => ?_)
  obtain ⟨s25, pl⟩ := u25
  obtain ⟨⟨eq25, hFc25, ⟨x33, hx_33, hb_33⟩, ⟨x34, hx_34, hb_34⟩, -⟩, hO⟩ := hu25
  have hO : okn g T s25 pl := hO
  have hP : va_P g.1 vcl ([] ++ pl) _ := hP
  have hD : va_D _ ([] ++ pl) := hD
  have hFc25 : frm (M_SP_absorb 16) s24 s25 := hFc25
  have hb_33 : x33 < x31 := hb_33
  have hb_34 : x34 = x31 := hb_34
  replace hR := bnd_step hR eq25
  have hF := frm_tr hF hFc25 (fun k hk => by unfold M_SP_absorb at hk; unfold M_DA_digestMessage; omega)
  refine W.widen (k := 0) (n := 0) (by omega) (by omega) ?_
  refine lv_aload_n hx hb dDA_digestMessage_51 rfl (lv_at hl 0 rfl) ?_
  refine nw_get (C := "LatticeKeys$Dsa") (TT := T_DA) (N := 17) hx hb hts (wg_ft i_DA) hown hK hO k_h0 (kn := 39) (ci := 6) (fl := [(3, 16), (3, 22), (3, 37), (3, 40), (3, 97), (3, 105), (3, 114), (3, 123), (3, 131), (3, 140), (3, 141), (3, 142), (3, 143), (3, 144), (3, 145), (3, 146), (3, 147)]) rfl hP rfl 0 (by decide) (hts _ (wg_t kw_165)) (fun _ h9 => h9) (cd := (3, 16)) rfl dDA_digestMessage_52 (fun v27 hv27 => ?_)
  obtain ⟨r27, rfl, kr27⟩ := (show ∃ r : Nat, v27 = .ref r ∧ T r = some 16 from hv27)
  refine mp_v (cx := []) (wr := []) hP hD hS hA [] [] rfl rfl rfl (by decide) (va_runV (As := []) (rest := []) F (N_SP_finish l g _ T s25 pl hO hU r27 16 17 x33 x34 kr27 rfl rfl hx_33 hx_34 (by omega) (by omega)) (cwV 0 hts (wg_app (wg_c kw_672 (wg_c kw_611 (wg_c kw_612 (wg_c kw_2 wg_n)))) kw_613) rfl rfl rfl (by decide +kernel) ⟨by decide, by decide⟩) (pn_W "LatticeKeys$Sponge" (en_ok g) (ci := 3) (kn := 16) (fl := [(3, 17), (0, 0), (0, 0), (0, 0)]) hK hO kr27 rfl hP hD hS hA hE [] rfl rfl rfl) rfl rfl hl.1 rfl (lv_room (Nat.le_of_ble_eq_true rfl)) dDA_digestMessage_55 ⟨by omega, by omega⟩) (fun  u26 H locs hu26 hP hD hS => ?_)
  obtain ⟨s26, pl⟩ := u26
  obtain ⟨⟨eq26, hFc26, ⟨x36, hx_36, hb_36⟩, ⟨x37, hx_37, hb_37⟩, -⟩, hO⟩ := hu26
  have hO : okn g T s26 pl := hO
  have hP : va_P g.1 vcl ([] ++ pl) _ := hP
  have hD : va_D _ ([] ++ pl) := hD
  have hFc26 : frm (M_SP_finish 16) s25 s26 := hFc26
  have hb_36 : x36 = x34 := hb_36
  have hb_37 : x37 = x34 := hb_37
  replace hR := bnd_step hR eq26
  have hF := frm_tr hF hFc26 (fun k hk => by unfold M_SP_finish at hk; unfold M_DA_digestMessage; omega)
  refine W.widen (k := 0) (n := 0) (by omega) (by omega) ?_
  refine lv_aload_n hx hb dDA_digestMessage_58 rfl (lv_at hl 0 rfl) ?_
  refine nw_get (C := "LatticeKeys$Dsa") (TT := T_DA) (N := 17) hx hb hts (wg_ft i_DA) hown hK hO k_h0 (kn := 39) (ci := 6) (fl := [(3, 16), (3, 22), (3, 37), (3, 40), (3, 97), (3, 105), (3, 114), (3, 123), (3, 131), (3, 140), (3, 141), (3, 142), (3, 143), (3, 144), (3, 145), (3, 146), (3, 147)]) rfl hP rfl 0 (by decide) (hts _ (wg_t kw_165)) (fun _ h9 => h9) (cd := (3, 16)) rfl dDA_digestMessage_59 (fun v28 hv28 => ?_)
  obtain ⟨r28, rfl, kr28⟩ := (show ∃ r : Nat, v28 = .ref r ∧ T r = some 16 from hv28)
  refine lv_aload_n hx hb dDA_digestMessage_62 rfl (lv_at hl 0 rfl) ?_
  refine nw_get (C := "LatticeKeys$Dsa") (TT := T_DA) (N := 17) hx hb hts (wg_ft i_DA) hown hK hO k_h0 (kn := 39) (ci := 6) (fl := [(3, 16), (3, 22), (3, 37), (3, 40), (3, 97), (3, 105), (3, 114), (3, 123), (3, 131), (3, 140), (3, 141), (3, 142), (3, 143), (3, 144), (3, 145), (3, 146), (3, 147)]) rfl hP rfl 12 (by decide) (hts _ (wg_t kw_177)) (fun _ h9 => h9) (cd := (3, 143)) rfl dDA_digestMessage_63 (fun v29 hv29 => ?_)
  obtain ⟨r29, rfl, kr29⟩ := (show ∃ r : Nat, v29 = .ref r ∧ T r = some 143 from hv29)
  refine lv_iconst (v := nI 0) hx hb dDA_digestMessage_66 (by decide) ?_
  refine lv_bipush (v := nI 64) hx hb dDA_digestMessage_67 (by decide) ?_
  refine mp_v (cx := []) (wr := []) hP hD hS hA [] [] rfl rfl rfl (by decide) (va_runV (As := [.ref r29, .int (nI 0), .int (nI 64)]) (rest := []) F (N_SP_squeeze l g _ T s26 pl hO hU r28 r29 16 17 143 64 0 64 x36 x37 kr28 rfl rfl kr29 rfl hx_36 hx_37 (by omega) (by omega) (by omega) (by omega)) (cwV 3 hts (wg_app (wg_c kw_673 (wg_c kw_615 (wg_c kw_616 (wg_c kw_2 wg_n)))) kw_617) rfl rfl rfl (by decide +kernel) ⟨by decide, by decide⟩) (pn_W "LatticeKeys$Sponge" (en_ok g) (ci := 3) (kn := 16) (fl := [(3, 17), (0, 0), (0, 0), (0, 0)]) hK hO kr28 rfl hP hD hS hA hE [] rfl rfl rfl) rfl rfl hl.1 rfl (lv_room (Nat.le_of_ble_eq_true rfl)) dDA_digestMessage_69 ⟨by omega, by omega⟩) (fun  u27 H locs hu27 hP hD hS => ?_)
  obtain ⟨s27, pl⟩ := u27
  obtain ⟨⟨eq27, hFc27, ⟨x39, hx_39, hb_39⟩, ⟨x40, hx_40, hb_40⟩, -⟩, hO⟩ := hu27
  have hO : okn g T s27 pl := hO
  have hP : va_P g.1 vcl ([] ++ pl) _ := hP
  have hD : va_D _ ([] ++ pl) := hD
  have hFc27 : frm (M_SP_squeeze 16 143) s26 s27 := hFc27
  have hb_39 : x39 ≤ x37 := hb_39
  have hb_40 : x40 = x37 := hb_40
  replace hR := bnd_step hR eq27
  have hF := frm_tr hF hFc27 (fun k hk => by unfold M_SP_squeeze at hk; unfold M_DA_digestMessage; omega)
  refine W.widen (k := 0) (n := 0) (by omega) (by omega) ?_
  exact mp_vret hx hb hr hlk hP hD hS (s27, pl) ⟨⟨hR.symm, hF, trivial⟩, hO⟩ [] rfl rfl rfl (by omega) (by omega) dDA_digestMessage_72
def M_DA_readFlipped (pf : Nat) (k : Nat) : Prop := k = pf ∨ (0 : Nat) = 1
noncomputable def F_DA_readFlipped (pf : Nat) (b : Nat) (tp : Int32) (pr_ : Nat) (n : Nat) (at_ : Nat) (s : Sto) : Sto := bnd (F_BT_unpack pf b pr_ n at_ s) fun s21 => bnd (F_RG_flip_8 pf tp pf s21) fun s22 => s22
set_option maxHeartbeats 8000000 in
set_option maxRecDepth 100000 in
theorem N_DA_readFlipped (l : Launch) (g : Gd) (sz : Nat) (T : TyN) (s : Sto) (pl : va_W) (hO : okn g T s pl) (hU : inj T) (h0 f fr : Nat) (pf : Nat) (b : Nat) (tp : Int32) (pr_ : Nat) (n : Nat) (at_ : Nat) (k_h0 : T h0 = some 39) (k_f : T f = some pf) (n_f : nsp pf = (0, 256, [])) (k_fr : T fr = some pr_) (n_fr : nsp pr_ = (1, n, [])) (h1 : at_ + 32 * b ≤ n) (h2 : n < 65536) (h3 : b < 32)  : Met l y_DA_readFlipped w_DA_readFlipped ({ frames := 1, cells := 0, slots := 0, locals := 28 } : Room) (va_Pc [.ref h0, .ref f, .int (nI b), .int tp, .ref fr, .int (nI at_)] (pr (en g) g.1 vcl sz ([] ++ pl))) (va_Qv (fun (u : (Sto) × va_W) => (u.1 = F_DA_readFlipped pf b tp pr_ n at_ s ∧ frm (M_DA_readFlipped pf) s u.1 ∧ True) ∧ okn g T u.1 u.2) (po g.1 vcl (va_A ([] ++ pl) sz) (fun (u : (Sto) × va_W) => [] ++ u.2)) (va_A ([] ++ pl) sz)) 0 0 (va_A ([] ++ pl) sz) := by
  refine mc_entry (cc := c_DA_readFlipped) (maxL := 6) (ret := none) (by decide) rfl (Nat.le_of_ble_eq_true rfl) ?_
  intro p e s0 m args below meth c ls F hr hlk hnm hsz hP hD hE hA hl
  obtain ⟨hx, hb, hml, hown, hts⟩ := id F
  have hK := hE.1
  generalize va_A ([] ++ pl) sz = A at hD hE hA ⊢
  have hS : va_S A s0.heap s0.heap [] := va_S.rf
  have hl : lv_has ls 6 [(0, .ref h0), (1, .ref f), (2, .int (nI b)), (3, .int tp), (4, .ref fr), (5, .int (nI at_))] := hl
  have hR : F_DA_readFlipped pf b tp pr_ n at_ s = F_DA_readFlipped pf b tp pr_ n at_ s := rfl
  have hF : frm (M_DA_readFlipped pf) s s := frm_rf
  refine lv_aload_n hx hb dDA_readFlipped_0 rfl (lv_at hl 1 rfl) ?_
  refine lv_iload_n hx hb dDA_readFlipped_1 rfl (lv_at hl 2 rfl) ?_
  refine lv_aload hx hb dDA_readFlipped_2 (lv_at hl 4 rfl) ?_
  refine lv_iload hx hb dDA_readFlipped_4 (lv_at hl 5 rfl) ?_
  refine mp_v (cx := []) (wr := []) hP hD hS hA [] [] rfl rfl rfl (by decide) (va_runS (As := [.ref f, .int (nI b), .ref fr, .int (nI at_)]) (rest := []) F (N_BT_unpack l g _ T s pl hO hU f fr pf b pr_ n at_ k_f n_f k_fr n_fr (by omega) (by omega) (by omega)) (va_cwS 4 hts (wg_app (wg_c kw_1187 (wg_c kw_628 (wg_c kw_22 wg_n))) kw_629) rfl rfl rfl (by decide +kernel) ⟨by decide, by decide⟩) (pp_S (en_ok g) hP hD hS hA hE [] rfl rfl) rfl rfl hl.1 rfl (lv_room (Nat.le_of_ble_eq_true rfl)) dDA_readFlipped_6 ⟨by omega, by omega⟩) (fun  u21 H locs hu21 hP hD hS => ?_)
  obtain ⟨s21, pl⟩ := u21
  obtain ⟨⟨eq21, hFc21, -⟩, hO⟩ := hu21
  have hO : okn g T s21 pl := hO
  have hP : va_P g.1 vcl ([] ++ pl) _ := hP
  have hD : va_D _ ([] ++ pl) := hD
  have hFc21 : frm (M_BT_unpack pf) s s21 := hFc21
  replace hR := bnd_step hR eq21
  have hF := frm_tr hF hFc21 (fun k hk => by unfold M_BT_unpack at hk; unfold M_DA_readFlipped; omega)
  refine W.widen (k := 0) (n := 0) (by omega) (by omega) ?_
  refine lv_aload_n hx hb dDA_readFlipped_9 rfl (lv_at hl 0 rfl) ?_
  refine nw_get (C := "LatticeKeys$Dsa") (TT := T_DA) (N := 17) hx hb hts (wg_ft i_DA) hown hK hO k_h0 (kn := 39) (ci := 6) (fl := [(3, 16), (3, 22), (3, 37), (3, 40), (3, 97), (3, 105), (3, 114), (3, 123), (3, 131), (3, 140), (3, 141), (3, 142), (3, 143), (3, 144), (3, 145), (3, 146), (3, 147)]) rfl hP rfl 1 (by decide) (hts _ (wg_t kw_166)) (fun _ h9 => h9) (cd := (3, 22)) rfl dDA_readFlipped_10 (fun v21 hv21 => ?_)
  obtain ⟨r21, rfl, kr21⟩ := (show ∃ r : Nat, v21 = .ref r ∧ T r = some 22 from hv21)
  refine lv_aload_n hx hb dDA_readFlipped_13 rfl (lv_at hl 1 rfl) ?_
  refine lv_iload_n hx hb dDA_readFlipped_14 rfl (lv_at hl 3 rfl) ?_
  refine lv_aload_n hx hb dDA_readFlipped_15 rfl (lv_at hl 1 rfl) ?_
  refine mp_v (cx := []) (wr := []) hP hD hS hA [] [] rfl rfl rfl (by decide) (va_runV (As := [.ref f, .int tp, .ref f]) (rest := []) F (N_RG_flip_8 l g _ T s21 pl hO hU r21 f f pf tp pf kr21 k_f n_f k_f n_f) (cwV 3 hts (wg_app (wg_c kw_698 (wg_c kw_699 (wg_c kw_700 (wg_c kw_4 wg_n)))) kw_701) rfl rfl rfl (by decide +kernel) ⟨by decide, by decide⟩) (pn_W "LatticeKeys$Ring" (en_ok g) (ci := 4) (kn := 22) (fl := [(1, 8380417), (1, 8), (1, 8347681), (3, 23)]) hK hO kr21 rfl hP hD hS hA hE [] rfl rfl rfl) rfl rfl hl.1 rfl (lv_room (Nat.le_of_ble_eq_true rfl)) dDA_readFlipped_16 ⟨by omega, by omega⟩) (fun  u22 H locs hu22 hP hD hS => ?_)
  obtain ⟨s22, pl⟩ := u22
  obtain ⟨⟨eq22, hFc22, -⟩, hO⟩ := hu22
  have hO : okn g T s22 pl := hO
  have hP : va_P g.1 vcl ([] ++ pl) _ := hP
  have hD : va_D _ ([] ++ pl) := hD
  have hFc22 : frm (M_RG_flip_8 pf) s21 s22 := hFc22
  replace hR := bnd_step hR eq22
  have hF := frm_tr hF hFc22 (fun k hk => by unfold M_RG_flip_8 at hk; unfold M_DA_readFlipped; omega)
  refine W.widen (k := 0) (n := 0) (by omega) (by omega) ?_
  exact mp_vret hx hb hr hlk hP hD hS (s22, pl) ⟨⟨hR.symm, hF, trivial⟩, hO⟩ [] rfl rfl rfl (by omega) (by omega) dDA_readFlipped_19
def M_DA_splitRow (pf : Nat) (k : Nat) : Prop := k = 141 ∨ k = pf ∨ (0 : Nat) = 1
noncomputable def F_DA_splitRow_L0 (pf : Nat) : Nat → Nat → Sto → Sto
  | 0, i21, s21 => s21
  | n21 + 1, i21, s21 => bnd (((s21.1 pf i21) &&& (nI 8191))) fun z21 => if z21 ≤ (nI 4096) then bnd (sI s21 141 i21 ((nI 4096) - z21)) fun s22 => bnd (sI s22 pf i21 (((s22.1 pf i21) - z21) >>> ((nI 13) &&& 31))) fun s23 => F_DA_splitRow_L0 pf n21 (i21 + 1) s23 else bnd ((z21 - (nI 8192))) fun z22 => bnd (sI s21 141 i21 ((nI 4096) - z22)) fun s24 => bnd (sI s24 pf i21 (((s24.1 pf i21) - z22) >>> ((nI 13) &&& 31))) fun s25 => F_DA_splitRow_L0 pf n21 (i21 + 1) s25
noncomputable def F_DA_splitRow (pf : Nat) (s : Sto) : Sto := F_DA_splitRow_L0 pf 256 0 s
set_option maxHeartbeats 8000000 in
set_option maxRecDepth 100000 in
theorem N_DA_splitRow (l : Launch) (g : Gd) (sz : Nat) (T : TyN) (s : Sto) (pl : va_W) (hO : okn g T s pl) (hU : inj T) (h0 f : Nat) (pf : Nat) (k_h0 : T h0 = some 39) (k_f : T f = some pf) (n_f : nsp pf = (0, 256, []))  : Met l y_DA_splitRow w_DA_splitRow ({ frames := 0, cells := 0, slots := 0, locals := 0 } : Room) (va_Pc [.ref h0, .ref f] (pr (en g) g.1 vcl sz ([] ++ pl))) (va_Qv (fun (u : (Sto) × va_W) => (u.1 = F_DA_splitRow pf s ∧ frm (M_DA_splitRow pf) s u.1 ∧ True) ∧ okn g T u.1 u.2) (po g.1 vcl (va_A ([] ++ pl) sz) (fun (u : (Sto) × va_W) => [] ++ u.2)) (va_A ([] ++ pl) sz)) 0 0 (va_A ([] ++ pl) sz) := by
  refine mc_entry (cc := c_DA_splitRow) (maxL := 5) (ret := none) (by decide) rfl (Nat.le_of_ble_eq_true rfl) ?_
  intro p e s0 m args below meth c ls F hr hlk hnm hsz hP hD hE hA hl
  obtain ⟨hx, hb, hml, hown, hts⟩ := id F
  have hK := hE.1
  generalize va_A ([] ++ pl) sz = A at hD hE hA ⊢
  have hS : va_S A s0.heap s0.heap [] := va_S.rf
  have hl : lv_has ls 5 [(0, .ref h0), (1, .ref f)] := hl
  have hR : F_DA_splitRow pf s = F_DA_splitRow pf s := rfl
  have hF : frm (M_DA_splitRow pf) s s := frm_rf
  refine lv_sipush (v := nI 4096) hx hb dDA_splitRow_0 (by decide) ?_
  refine lv_istore_n (lv' := [(2, .int (nI 4096)), (0, .ref h0), (1, .ref f)]) hx hb dDA_splitRow_3 rfl hl (by decide) rfl (fun ls hl => ?_)
  refine lv_iconst (v := nI 0) hx hb dDA_splitRow_4 (by decide) ?_
  refine lv_istore_n (lv' := [(3, .int (nI 0)), (2, .int (nI 4096)), (0, .ref h0), (1, .ref f)]) hx hb dDA_splitRow_5 rfl hl (by decide) rfl (fun ls hl => ?_)
  have lp21 : ∀ (n21 : Nat) (i21 : Nat) (s21 : Sto) (pl : va_W) (ls : Array Slot) (H : Heap) (locs : List Loc), n21 + i21 = 256 → frm (M_DA_splitRow pf) s s21 → F_DA_splitRow pf s = F_DA_splitRow_L0 pf n21 i21 s21 → lv_has ls 5 [(3, .int (nI i21)), (2, .int (nI 4096)), (0, .ref h0), (1, .ref f)] → okn g T s21 pl → va_P g.1 vcl ([] ++ pl) H → va_D A ([] ++ pl) → va_S A s0.heap H locs → W p l e ({ frames := 0, cells := 0, slots := 0, locals := 0 } : Room) s0 m args below meth c H locs 0 0 (MQ below (va_Qv (fun (u : (Sto) × va_W) => (u.1 = F_DA_splitRow pf s ∧ frm (M_DA_splitRow pf) s u.1 ∧ True) ∧ okn g T u.1 u.2) (po g.1 vcl A (fun (u : (Sto) × va_W) => [] ++ u.2)) A) args s0 0 0 A) (F0 m 6 ls []) := by
    intro n21
    induction n21 with
    | zero =>
      intro i21 s21 pl ls H locs hm21 hF hR hl hO hP hD hS
      refine lv_iload_n hx hb dDA_splitRow_6 rfl (lv_at hl 0 rfl) ?_
      refine lv_sipush (v := nI 256) hx hb dDA_splitRow_7 (by decide) ?_
      refine mi_ge (tgt := 71) hx hb dDA_splitRow_10 (by decide) (by omega) (by omega) (fun h21 => ?_) (fun h21 => absurd h21 (by omega))
      exact mp_vret hx hb hr hlk hP hD hS (s21, pl) ⟨⟨hR.symm, hF, trivial⟩, hO⟩ [] rfl rfl rfl (by omega) (by omega) dDA_splitRow_71
    | succ n21 ih21 =>
      intro i21 s21 pl ls H locs hm21 hF hR hl hO hP hD hS
      refine lv_iload_n hx hb dDA_splitRow_6 rfl (lv_at hl 0 rfl) ?_
      refine lv_sipush (v := nI 256) hx hb dDA_splitRow_7 (by decide) ?_
      refine mi_ge (tgt := 71) hx hb dDA_splitRow_10 (by decide) (by omega) (by omega) (fun h22 => absurd h22 (by omega)) (fun h22 => ?_)
      refine lv_aload_n hx hb dDA_splitRow_13 rfl (lv_at hl 3 rfl) ?_
      refine lv_iload_n hx hb dDA_splitRow_14 rfl (lv_at hl 0 rfl) ?_
      refine nw_iald hx hb hK hO k_f (k := pf) n_f hP (by omega) (by omega) dDA_splitRow_15 ?_
      refine lv_iconst (v := nI 2) hx hb dDA_splitRow_16 (by decide) ?_
      refine lv_iload_n hx hb dDA_splitRow_17 rfl (lv_at hl 1 rfl) ?_
      refine mi_imul hx hb dDA_splitRow_18 ?_
      refine mi_as (show nI (2 * 4096) = nI 8192 from rfl) ?_
      refine lv_iconst (v := nI 1) hx hb dDA_splitRow_19 (by decide) ?_
      refine mi_isub hx hb dDA_splitRow_20 (by omega) ?_
      refine mi_as (show nI (8192 - 1) = nI 8191 from rfl) ?_
      refine lv_iand hx hb dDA_splitRow_21 ?_
      refine mi_eqv (fun z21 ez21 => ?_)
      replace hR := bnd_step hR ez21
      refine lv_istore (lv' := [(4, .int z21), (3, .int (nI i21)), (2, .int (nI 4096)), (0, .ref h0), (1, .ref f)]) hx hb dDA_splitRow_22 hl (by decide) rfl (fun ls hl => ?_)
      refine lv_iload hx hb dDA_splitRow_24 (lv_at hl 0 rfl) ?_
      refine lv_iload_n hx hb dDA_splitRow_26 rfl (lv_at hl 2 rfl) ?_
      refine lv_icmp_le (tgt := 39) hx hb dDA_splitRow_27 (by decide) (fun h23 => ?_) (fun h23 => ?_)
      · replace hR := hR.trans (if_pos h23)
        refine lv_iload hx hb dDA_splitRow_39 (lv_at hl 0 rfl) ?_
        refine lv_istore (lv' := [(4, .int z21), (3, .int (nI i21)), (2, .int (nI 4096)), (0, .ref h0), (1, .ref f)]) hx hb dDA_splitRow_41 hl (by decide) rfl (fun ls hl => ?_)
        refine lv_aload_n hx hb dDA_splitRow_43 rfl (lv_at hl 3 rfl) ?_
        refine nw_get (C := "LatticeKeys$Dsa") (TT := T_DA) (N := 17) hx hb hts (wg_ft i_DA) hown hK hO k_h0 (kn := 39) (ci := 6) (fl := [(3, 16), (3, 22), (3, 37), (3, 40), (3, 97), (3, 105), (3, 114), (3, 123), (3, 131), (3, 140), (3, 141), (3, 142), (3, 143), (3, 144), (3, 145), (3, 146), (3, 147)]) rfl hP rfl 10 (by decide) (hts _ (wg_t kw_175)) (fun _ h9 => h9) (cd := (3, 141)) rfl dDA_splitRow_44 (fun v21 hv21 => ?_)
        obtain ⟨r21, rfl, kr21⟩ := (show ∃ r : Nat, v21 = .ref r ∧ T r = some 141 from hv21)
        refine lv_iload_n hx hb dDA_splitRow_47 rfl (lv_at hl 1 rfl) ?_
        refine lv_iload_n hx hb dDA_splitRow_48 rfl (lv_at hl 2 rfl) ?_
        refine lv_iload hx hb dDA_splitRow_49 (lv_at hl 0 rfl) ?_
        refine lv_isub hx hb dDA_splitRow_51 ?_
        refine nw_iast hx hb hK hO hU kr21 (k := 141) rfl hP hD hS (by omega) (by omega) dDA_splitRow_52 (fun s22 pl H locs es21 hO hP hD hS => ?_)
        replace hR := bnd_step hR es21
        have hF := frm_sI hF es21 (by unfold M_DA_splitRow; omega)
        refine lv_aload_n hx hb dDA_splitRow_53 rfl (lv_at hl 4 rfl) ?_
        refine lv_iload_n hx hb dDA_splitRow_54 rfl (lv_at hl 1 rfl) ?_
        refine lv_aload_n hx hb dDA_splitRow_55 rfl (lv_at hl 4 rfl) ?_
        refine lv_iload_n hx hb dDA_splitRow_56 rfl (lv_at hl 1 rfl) ?_
        refine nw_iald hx hb hK hO k_f (k := pf) n_f hP (by omega) (by omega) dDA_splitRow_57 ?_
        refine lv_iload hx hb dDA_splitRow_58 (lv_at hl 0 rfl) ?_
        refine lv_isub hx hb dDA_splitRow_60 ?_
        refine lv_bipush (v := nI 13) hx hb dDA_splitRow_61 (by decide) ?_
        refine lv_ishr hx hb dDA_splitRow_63 ?_
        refine nw_iast hx hb hK hO hU k_f (k := pf) n_f hP hD hS (by omega) (by omega) dDA_splitRow_64 (fun s23 pl H locs es22 hO hP hD hS => ?_)
        replace hR := bnd_step hR es22
        have hF := frm_sI hF es22 (by unfold M_DA_splitRow; omega)
        refine mi_iinc (k := 1) (x := i21) (d := 1) (y := i21 + 1) (lv' := [(3, .int (nI (i21 + 1))), (4, .int z21), (2, .int (nI 4096)), (0, .ref h0), (1, .ref f)]) hx hb dDA_splitRow_65 hl rfl (by decide) rfl (by decide) rfl (fun ls hl => ?_)
        refine lv_goto (tgt := 6) hx hb dDA_splitRow_68 (by decide) ?_
        exact ih21 (i21 + 1) s23 pl ls H locs (by omega) hF hR (lv_sub hl [0, 2, 3, 4] rfl) hO hP hD hS
      · replace hR := hR.trans (if_neg h23)
        refine lv_iload hx hb dDA_splitRow_30 (lv_at hl 0 rfl) ?_
        refine lv_iconst (v := nI 2) hx hb dDA_splitRow_32 (by decide) ?_
        refine lv_iload_n hx hb dDA_splitRow_33 rfl (lv_at hl 2 rfl) ?_
        refine mi_imul hx hb dDA_splitRow_34 ?_
        refine mi_as (show nI (2 * 4096) = nI 8192 from rfl) ?_
        refine lv_isub hx hb dDA_splitRow_35 ?_
        refine lv_goto (tgt := 41) hx hb dDA_splitRow_36 (by decide) ?_
        refine mi_eqv (fun z22 ez22 => ?_)
        replace hR := bnd_step hR ez22
        refine lv_istore (lv' := [(4, .int z22), (3, .int (nI i21)), (2, .int (nI 4096)), (0, .ref h0), (1, .ref f)]) hx hb dDA_splitRow_41 hl (by decide) rfl (fun ls hl => ?_)
        refine lv_aload_n hx hb dDA_splitRow_43 rfl (lv_at hl 3 rfl) ?_
        refine nw_get (C := "LatticeKeys$Dsa") (TT := T_DA) (N := 17) hx hb hts (wg_ft i_DA) hown hK hO k_h0 (kn := 39) (ci := 6) (fl := [(3, 16), (3, 22), (3, 37), (3, 40), (3, 97), (3, 105), (3, 114), (3, 123), (3, 131), (3, 140), (3, 141), (3, 142), (3, 143), (3, 144), (3, 145), (3, 146), (3, 147)]) rfl hP rfl 10 (by decide) (hts _ (wg_t kw_175)) (fun _ h9 => h9) (cd := (3, 141)) rfl dDA_splitRow_44 (fun v22 hv22 => ?_)
        obtain ⟨r22, rfl, kr22⟩ := (show ∃ r : Nat, v22 = .ref r ∧ T r = some 141 from hv22)
        refine lv_iload_n hx hb dDA_splitRow_47 rfl (lv_at hl 1 rfl) ?_
        refine lv_iload_n hx hb dDA_splitRow_48 rfl (lv_at hl 2 rfl) ?_
        refine lv_iload hx hb dDA_splitRow_49 (lv_at hl 0 rfl) ?_
        refine lv_isub hx hb dDA_splitRow_51 ?_
        refine nw_iast hx hb hK hO hU kr22 (k := 141) rfl hP hD hS (by omega) (by omega) dDA_splitRow_52 (fun s24 pl H locs es23 hO hP hD hS => ?_)
        replace hR := bnd_step hR es23
        have hF := frm_sI hF es23 (by unfold M_DA_splitRow; omega)
        refine lv_aload_n hx hb dDA_splitRow_53 rfl (lv_at hl 4 rfl) ?_
        refine lv_iload_n hx hb dDA_splitRow_54 rfl (lv_at hl 1 rfl) ?_
        refine lv_aload_n hx hb dDA_splitRow_55 rfl (lv_at hl 4 rfl) ?_
        refine lv_iload_n hx hb dDA_splitRow_56 rfl (lv_at hl 1 rfl) ?_
        refine nw_iald hx hb hK hO k_f (k := pf) n_f hP (by omega) (by omega) dDA_splitRow_57 ?_
        refine lv_iload hx hb dDA_splitRow_58 (lv_at hl 0 rfl) ?_
        refine lv_isub hx hb dDA_splitRow_60 ?_
        refine lv_bipush (v := nI 13) hx hb dDA_splitRow_61 (by decide) ?_
        refine lv_ishr hx hb dDA_splitRow_63 ?_
        refine nw_iast hx hb hK hO hU k_f (k := pf) n_f hP hD hS (by omega) (by omega) dDA_splitRow_64 (fun s25 pl H locs es24 hO hP hD hS => ?_)
        replace hR := bnd_step hR es24
        have hF := frm_sI hF es24 (by unfold M_DA_splitRow; omega)
        refine mi_iinc (k := 1) (x := i21) (d := 1) (y := i21 + 1) (lv' := [(3, .int (nI (i21 + 1))), (4, .int z22), (2, .int (nI 4096)), (0, .ref h0), (1, .ref f)]) hx hb dDA_splitRow_65 hl rfl (by decide) rfl (by decide) rfl (fun ls hl => ?_)
        refine lv_goto (tgt := 6) hx hb dDA_splitRow_68 (by decide) ?_
        exact ih21 (i21 + 1) s25 pl ls H locs (by omega) hF hR (lv_sub hl [0, 2, 3, 4] rfl) hO hP hD hS
  exact lp21 256 0 s pl ls _ _ (by omega) hF hR (lv_sub hl [0, 1, 2, 3] rfl) hO hP hD hS
def M_DA_multiplyBall (k : Nat) : Prop := k = 141 ∨ (0 : Nat) = 1
noncomputable def F_DA_multiplyBall (pf : Nat) (s : Sto) : Sto := bnd (F_AR_fillI 141 256 (nI 0) s) fun s21 => bnd (F_RG_addProduct_8 141 140 pf s21) fun s22 => bnd (F_RG_restore_8 141 s22) fun s23 => s23
set_option maxHeartbeats 8000000 in
set_option maxRecDepth 100000 in
theorem N_DA_multiplyBall (l : Launch) (g : Gd) (sz : Nat) (T : TyN) (s : Sto) (pl : va_W) (hO : okn g T s pl) (hU : inj T) (h0 f : Nat) (pf : Nat) (k_h0 : T h0 = some 39) (k_f : T f = some pf) (n_f : nsp pf = (0, 256, []))  : Met l y_DA_multiplyBall w_DA_multiplyBall ({ frames := 2, cells := 0, slots := 0, locals := 53 } : Room) (va_Pc [.ref h0, .ref f] (pr (en g) g.1 vcl sz ([] ++ pl))) (va_Qv (fun (u : (Sto) × va_W) => (u.1 = F_DA_multiplyBall pf s ∧ frm (M_DA_multiplyBall) s u.1 ∧ True) ∧ okn g T u.1 u.2) (po g.1 vcl (va_A ([] ++ pl) sz) (fun (u : (Sto) × va_W) => [] ++ u.2)) (va_A ([] ++ pl) sz)) 0 0 (va_A ([] ++ pl) sz) := by
  refine mc_entry (cc := c_DA_multiplyBall) (maxL := 2) (ret := none) (by decide) rfl (Nat.le_of_ble_eq_true rfl) ?_
  intro p e s0 m args below meth c ls F hr hlk hnm hsz hP hD hE hA hl
  obtain ⟨hx, hb, hml, hown, hts⟩ := id F
  have hK := hE.1
  generalize va_A ([] ++ pl) sz = A at hD hE hA ⊢
  have hS : va_S A s0.heap s0.heap [] := va_S.rf
  have hl : lv_has ls 2 [(0, .ref h0), (1, .ref f)] := hl
  have hR : F_DA_multiplyBall pf s = F_DA_multiplyBall pf s := rfl
  have hF : frm (M_DA_multiplyBall) s s := frm_rf
  refine lv_aload_n hx hb dDA_multiplyBall_0 rfl (lv_at hl 0 rfl) ?_
  refine nw_get (C := "LatticeKeys$Dsa") (TT := T_DA) (N := 17) hx hb hts (wg_ft i_DA) hown hK hO k_h0 (kn := 39) (ci := 6) (fl := [(3, 16), (3, 22), (3, 37), (3, 40), (3, 97), (3, 105), (3, 114), (3, 123), (3, 131), (3, 140), (3, 141), (3, 142), (3, 143), (3, 144), (3, 145), (3, 146), (3, 147)]) rfl hP rfl 10 (by decide) (hts _ (wg_t kw_175)) (fun _ h9 => h9) (cd := (3, 141)) rfl dDA_multiplyBall_1 (fun v21 hv21 => ?_)
  obtain ⟨r21, rfl, kr21⟩ := (show ∃ r : Nat, v21 = .ref r ∧ T r = some 141 from hv21)
  refine lv_iconst (v := nI 0) hx hb dDA_multiplyBall_4 (by decide) ?_
  refine mp_v (cx := []) (wr := []) hP hD hS hA [] [] rfl rfl rfl (by decide) (va_runS (As := [.ref r21, .int (nI 0)]) (rest := []) F (N_AR_fillI l g _ T s pl hO hU r21 141 256 (nI 0) kr21 rfl (by omega)) (va_cwS 2 hts (wg_app (wg_c kw_716 (wg_c kw_717 (wg_c kw_21 wg_n))) kw_718) rfl rfl rfl (by decide +kernel) ⟨by decide, by decide⟩) (pp_S (en_ok g) hP hD hS hA hE [] rfl rfl) rfl rfl hl.1 rfl (lv_room (Nat.le_of_ble_eq_true rfl)) dDA_multiplyBall_5 ⟨by omega, by omega⟩) (fun  u21 H locs hu21 hP hD hS => ?_)
  obtain ⟨s21, pl⟩ := u21
  obtain ⟨⟨eq21, hFc21, -⟩, hO⟩ := hu21
  have hO : okn g T s21 pl := hO
  have hP : va_P g.1 vcl ([] ++ pl) _ := hP
  have hD : va_D _ ([] ++ pl) := hD
  have hFc21 : frm (M_AR_fillI 141) s s21 := hFc21
  replace hR := bnd_step hR eq21
  have hF := frm_tr hF hFc21 (fun k hk => by unfold M_AR_fillI at hk; unfold M_DA_multiplyBall; omega)
  refine W.widen (k := 0) (n := 0) (by omega) (by omega) ?_
  refine lv_aload_n hx hb dDA_multiplyBall_8 rfl (lv_at hl 0 rfl) ?_
  refine nw_get (C := "LatticeKeys$Dsa") (TT := T_DA) (N := 17) hx hb hts (wg_ft i_DA) hown hK hO k_h0 (kn := 39) (ci := 6) (fl := [(3, 16), (3, 22), (3, 37), (3, 40), (3, 97), (3, 105), (3, 114), (3, 123), (3, 131), (3, 140), (3, 141), (3, 142), (3, 143), (3, 144), (3, 145), (3, 146), (3, 147)]) rfl hP rfl 1 (by decide) (hts _ (wg_t kw_166)) (fun _ h9 => h9) (cd := (3, 22)) rfl dDA_multiplyBall_9 (fun v22 hv22 => ?_)
  obtain ⟨r22, rfl, kr22⟩ := (show ∃ r : Nat, v22 = .ref r ∧ T r = some 22 from hv22)
  refine lv_aload_n hx hb dDA_multiplyBall_12 rfl (lv_at hl 0 rfl) ?_
  refine nw_get (C := "LatticeKeys$Dsa") (TT := T_DA) (N := 17) hx hb hts (wg_ft i_DA) hown hK hO k_h0 (kn := 39) (ci := 6) (fl := [(3, 16), (3, 22), (3, 37), (3, 40), (3, 97), (3, 105), (3, 114), (3, 123), (3, 131), (3, 140), (3, 141), (3, 142), (3, 143), (3, 144), (3, 145), (3, 146), (3, 147)]) rfl hP rfl 10 (by decide) (hts _ (wg_t kw_175)) (fun _ h9 => h9) (cd := (3, 141)) rfl dDA_multiplyBall_13 (fun v23 hv23 => ?_)
  obtain ⟨r23, rfl, kr23⟩ := (show ∃ r : Nat, v23 = .ref r ∧ T r = some 141 from hv23)
  refine lv_aload_n hx hb dDA_multiplyBall_16 rfl (lv_at hl 0 rfl) ?_
  refine nw_get (C := "LatticeKeys$Dsa") (TT := T_DA) (N := 17) hx hb hts (wg_ft i_DA) hown hK hO k_h0 (kn := 39) (ci := 6) (fl := [(3, 16), (3, 22), (3, 37), (3, 40), (3, 97), (3, 105), (3, 114), (3, 123), (3, 131), (3, 140), (3, 141), (3, 142), (3, 143), (3, 144), (3, 145), (3, 146), (3, 147)]) rfl hP rfl 9 (by decide) (hts _ (wg_t kw_174)) (fun _ h9 => h9) (cd := (3, 140)) rfl dDA_multiplyBall_17 (fun v24 hv24 => ?_)
  obtain ⟨r24, rfl, kr24⟩ := (show ∃ r : Nat, v24 = .ref r ∧ T r = some 140 from hv24)
  refine lv_aload_n hx hb dDA_multiplyBall_20 rfl (lv_at hl 1 rfl) ?_
  refine mp_v (cx := []) (wr := []) hP hD hS hA [] [] rfl rfl rfl (by decide) (va_runV (As := [.ref r23, .ref r24, .ref f]) (rest := []) F (N_RG_addProduct_8 l g _ T s21 pl hO hU r22 r23 r24 f 141 140 pf kr22 kr23 rfl kr24 rfl k_f n_f) (cwV 3 hts (wg_app (wg_c kw_719 (wg_c kw_654 (wg_c kw_655 (wg_c kw_4 wg_n)))) kw_656) rfl rfl rfl (by decide +kernel) ⟨by decide, by decide⟩) (pn_W "LatticeKeys$Ring" (en_ok g) (ci := 4) (kn := 22) (fl := [(1, 8380417), (1, 8), (1, 8347681), (3, 23)]) hK hO kr22 rfl hP hD hS hA hE [] rfl rfl rfl) rfl rfl hl.1 rfl (lv_room (Nat.le_of_ble_eq_true rfl)) dDA_multiplyBall_21 ⟨by omega, by omega⟩) (fun  u22 H locs hu22 hP hD hS => ?_)
  obtain ⟨s22, pl⟩ := u22
  obtain ⟨⟨eq22, hFc22, -⟩, hO⟩ := hu22
  have hO : okn g T s22 pl := hO
  have hP : va_P g.1 vcl ([] ++ pl) _ := hP
  have hD : va_D _ ([] ++ pl) := hD
  have hFc22 : frm (M_RG_addProduct_8 141) s21 s22 := hFc22
  replace hR := bnd_step hR eq22
  have hF := frm_tr hF hFc22 (fun k hk => by unfold M_RG_addProduct_8 at hk; unfold M_DA_multiplyBall; omega)
  refine W.widen (k := 0) (n := 0) (by omega) (by omega) ?_
  refine lv_aload_n hx hb dDA_multiplyBall_24 rfl (lv_at hl 0 rfl) ?_
  refine nw_get (C := "LatticeKeys$Dsa") (TT := T_DA) (N := 17) hx hb hts (wg_ft i_DA) hown hK hO k_h0 (kn := 39) (ci := 6) (fl := [(3, 16), (3, 22), (3, 37), (3, 40), (3, 97), (3, 105), (3, 114), (3, 123), (3, 131), (3, 140), (3, 141), (3, 142), (3, 143), (3, 144), (3, 145), (3, 146), (3, 147)]) rfl hP rfl 1 (by decide) (hts _ (wg_t kw_166)) (fun _ h9 => h9) (cd := (3, 22)) rfl dDA_multiplyBall_25 (fun v25 hv25 => ?_)
  obtain ⟨r25, rfl, kr25⟩ := (show ∃ r : Nat, v25 = .ref r ∧ T r = some 22 from hv25)
  refine lv_aload_n hx hb dDA_multiplyBall_28 rfl (lv_at hl 0 rfl) ?_
  refine nw_get (C := "LatticeKeys$Dsa") (TT := T_DA) (N := 17) hx hb hts (wg_ft i_DA) hown hK hO k_h0 (kn := 39) (ci := 6) (fl := [(3, 16), (3, 22), (3, 37), (3, 40), (3, 97), (3, 105), (3, 114), (3, 123), (3, 131), (3, 140), (3, 141), (3, 142), (3, 143), (3, 144), (3, 145), (3, 146), (3, 147)]) rfl hP rfl 10 (by decide) (hts _ (wg_t kw_175)) (fun _ h9 => h9) (cd := (3, 141)) rfl dDA_multiplyBall_29 (fun v26 hv26 => ?_)
  obtain ⟨r26, rfl, kr26⟩ := (show ∃ r : Nat, v26 = .ref r ∧ T r = some 141 from hv26)
  refine mp_v (cx := []) (wr := []) hP hD hS hA [] [] rfl rfl rfl (by decide) (va_runV (As := [.ref r26]) (rest := []) F (N_RG_restore_8 l g _ T s22 pl hO hU r25 r26 141 kr25 kr26 rfl) (cwV 1 hts (wg_app (wg_c kw_720 (wg_c kw_721 (wg_c kw_722 (wg_c kw_4 wg_n)))) kw_723) rfl rfl rfl (by decide +kernel) ⟨by decide, by decide⟩) (pn_W "LatticeKeys$Ring" (en_ok g) (ci := 4) (kn := 22) (fl := [(1, 8380417), (1, 8), (1, 8347681), (3, 23)]) hK hO kr25 rfl hP hD hS hA hE [] rfl rfl rfl) rfl rfl hl.1 rfl (lv_room (Nat.le_of_ble_eq_true rfl)) dDA_multiplyBall_32 ⟨by omega, by omega⟩) (fun  u23 H locs hu23 hP hD hS => ?_)
  obtain ⟨s23, pl⟩ := u23
  obtain ⟨⟨eq23, hFc23, -⟩, hO⟩ := hu23
  have hO : okn g T s23 pl := hO
  have hP : va_P g.1 vcl ([] ++ pl) _ := hP
  have hD : va_D _ ([] ++ pl) := hD
  have hFc23 : frm (M_RG_restore_8 141) s22 s23 := hFc23
  replace hR := bnd_step hR eq23
  have hF := frm_tr hF hFc23 (fun k hk => by unfold M_RG_restore_8 at hk; unfold M_DA_multiplyBall; omega)
  refine W.widen (k := 0) (n := 0) (by omega) (by omega) ?_
  exact mp_vret hx hb hr hlk hP hD hS (s23, pl) ⟨⟨hR.symm, hF, trivial⟩, hO⟩ [] rfl rfl rfl (by omega) (by omega) dDA_multiplyBall_35
def M_DA_multiplyRow_secret_0 (k : Nat) : Prop := (132 ≤ k ∧ k < 140) ∨ (0 : Nat) = 1
noncomputable def F_DA_multiplyRow_secret_0_L0 (rw : Nat) : Nat → Nat → Sto → Sto
  | 0, i21, s22 => s22
  | n21 + 1, i21, s22 => bnd (F_RG_addProduct_8 (132 + rw) (41 + ((4 * rw) + i21)) (98 + i21) s22) fun s23 => F_DA_multiplyRow_secret_0_L0 rw n21 (i21 + 1) s23
noncomputable def F_DA_multiplyRow_secret_0 (rw : Nat) (s : Sto) : Sto := bnd (F_AR_fillI (132 + rw) 256 (nI 0) s) fun s21 => F_DA_multiplyRow_secret_0_L0 rw 4 0 s21
set_option maxHeartbeats 8000000 in
set_option maxRecDepth 100000 in
theorem N_DA_multiplyRow_secret_0 (l : Launch) (g : Gd) (sz : Nat) (T : TyN) (s : Sto) (pl : va_W) (hO : okn g T s pl) (hU : inj T) (h0 st vc : Nat) (rw : Nat) (k_h0 : T h0 = some 39) (k_st : T st = some 9) (k_vc : T vc = some 97) (h1 : rw < 4)  : Met l y_DA_multiplyRow w_DA_multiplyRow ({ frames := 1, cells := 0, slots := 0, locals := 25 } : Room) (va_Pc [.ref h0, .ref st, .int (nI rw), .ref vc] (pr (en g) g.1 vcl sz ([] ++ pl))) (va_Qv (fun (u : (Sto) × va_W) => (u.1 = F_DA_multiplyRow_secret_0 rw s ∧ frm (M_DA_multiplyRow_secret_0) s u.1 ∧ True) ∧ okn g T u.1 u.2) (po g.1 vcl (va_A ([] ++ pl) sz) (fun (u : (Sto) × va_W) => [] ++ u.2)) (va_A ([] ++ pl) sz)) 0 0 (va_A ([] ++ pl) sz) := by
  refine mc_entry (cc := c_DA_multiplyRow) (maxL := 5) (ret := none) (by decide) rfl (Nat.le_of_ble_eq_true rfl) ?_
  intro p e s0 m args below meth c ls F hr hlk hnm hsz hP hD hE hA hl
  obtain ⟨hx, hb, hml, hown, hts⟩ := id F
  have hK := hE.1
  generalize va_A ([] ++ pl) sz = A at hD hE hA ⊢
  have hS : va_S A s0.heap s0.heap [] := va_S.rf
  have hl : lv_has ls 5 [(0, .ref h0), (1, .ref st), (2, .int (nI rw)), (3, .ref vc)] := hl
  have hR : F_DA_multiplyRow_secret_0 rw s = F_DA_multiplyRow_secret_0 rw s := rfl
  have hF : frm (M_DA_multiplyRow_secret_0) s s := frm_rf
  refine lv_aload_n hx hb dDA_multiplyRow_0 rfl (lv_at hl 0 rfl) ?_
  refine nw_get (C := "LatticeKeys$Dsa") (TT := T_DA) (N := 17) hx hb hts (wg_ft i_DA) hown hK hO k_h0 (kn := 39) (ci := 6) (fl := [(3, 16), (3, 22), (3, 37), (3, 40), (3, 97), (3, 105), (3, 114), (3, 123), (3, 131), (3, 140), (3, 141), (3, 142), (3, 143), (3, 144), (3, 145), (3, 146), (3, 147)]) rfl hP rfl 8 (by decide) (hts _ (wg_t kw_173)) (fun _ h9 => h9) (cd := (3, 131)) rfl dDA_multiplyRow_1 (fun v21 hv21 => ?_)
  obtain ⟨r21, rfl, kr21⟩ := (show ∃ r : Nat, v21 = .ref r ∧ T r = some 131 from hv21)
  refine lv_iload_n hx hb dDA_multiplyRow_4 rfl (lv_at hl 2 rfl) ?_
  refine nw_aald3 hx hb hK hO kr21 (k := 131) (b := 132) rfl hP (by omega) (by omega) dDA_multiplyRow_5 (fun r22 kr22 => ?_)
  have hn21 : nsp (132 + rw) = (0, 256, []) := rows_ok 132 8 (by decide) _ (by omega)
  refine lv_iconst (v := nI 0) hx hb dDA_multiplyRow_6 (by decide) ?_
  refine mp_v (cx := []) (wr := []) hP hD hS hA [] [] rfl rfl rfl (by decide) (va_runS (As := [.ref r22, .int (nI 0)]) (rest := []) F (N_AR_fillI l g _ T s pl hO hU r22 (132 + rw) 256 (nI 0) kr22 hn21 (by omega)) (va_cwS 2 hts (wg_app (wg_c kw_716 (wg_c kw_717 (wg_c kw_21 wg_n))) kw_718) rfl rfl rfl (by decide +kernel) ⟨by decide, by decide⟩) (pp_S (en_ok g) hP hD hS hA hE [] rfl rfl) rfl rfl hl.1 rfl (lv_room (Nat.le_of_ble_eq_true rfl)) dDA_multiplyRow_7 ⟨by omega, by omega⟩) (fun  u21 H locs hu21 hP hD hS => ?_)
  obtain ⟨s21, pl⟩ := u21
  obtain ⟨⟨eq21, hFc21, -⟩, hO⟩ := hu21
  have hO : okn g T s21 pl := hO
  have hP : va_P g.1 vcl ([] ++ pl) _ := hP
  have hD : va_D _ ([] ++ pl) := hD
  have hFc21 : frm (M_AR_fillI (132 + rw)) s s21 := hFc21
  replace hR := bnd_step hR eq21
  have hF := frm_tr hF hFc21 (fun k hk => by unfold M_AR_fillI at hk; unfold M_DA_multiplyRow_secret_0; omega)
  refine W.widen (k := 0) (n := 0) (by omega) (by omega) ?_
  refine lv_iconst (v := nI 0) hx hb dDA_multiplyRow_10 (by decide) ?_
  refine lv_istore (lv' := [(4, .int (nI 0)), (0, .ref h0), (1, .ref st), (2, .int (nI rw)), (3, .ref vc)]) hx hb dDA_multiplyRow_11 hl (by decide) rfl (fun ls hl => ?_)
  have lp21 : ∀ (n21 : Nat) (i21 : Nat) (s22 : Sto) (pl : va_W) (ls : Array Slot) (H : Heap) (locs : List Loc), n21 + i21 = 4 → frm (M_DA_multiplyRow_secret_0) s s22 → F_DA_multiplyRow_secret_0 rw s = F_DA_multiplyRow_secret_0_L0 rw n21 i21 s22 → lv_has ls 5 [(4, .int (nI i21)), (0, .ref h0), (1, .ref st), (2, .int (nI rw)), (3, .ref vc)] → okn g T s22 pl → va_P g.1 vcl ([] ++ pl) H → va_D A ([] ++ pl) → va_S A s0.heap H locs → W p l e ({ frames := 1, cells := 0, slots := 0, locals := 25 } : Room) s0 m args below meth c H locs 0 0 (MQ below (va_Qv (fun (u : (Sto) × va_W) => (u.1 = F_DA_multiplyRow_secret_0 rw s ∧ frm (M_DA_multiplyRow_secret_0) s u.1 ∧ True) ∧ okn g T u.1 u.2) (po g.1 vcl A (fun (u : (Sto) × va_W) => [] ++ u.2)) A) args s0 0 0 A) (F0 m 13 ls []) := by
    intro n21
    induction n21 with
    | zero =>
      intro i21 s22 pl ls H locs hm21 hF hR hl hO hP hD hS
      refine lv_iload hx hb dDA_multiplyRow_13 (lv_at hl 0 rfl) ?_
      refine lv_aload_n hx hb dDA_multiplyRow_15 rfl (lv_at hl 2 rfl) ?_
      refine nw_get (C := "LatticeKeys$DsaSet") (TT := T_DS) (N := 17) hx hb hts (wg_ft i_DS) hown hK hO k_st (kn := 9) (ci := 2) (fl := [(1, 4), (1, 4), (1, 2), (1, 3), (1, 39), (1, 32), (1, 18), (1, 131072), (1, 44), (1, 6), (1, 95232), (1, 80), (1, 78), (1, 1312), (1, 2560), (1, 2336), (1, 2420)]) rfl hP rfl 1 (by decide) (hts _ (wg_t kw_305)) (fun _ h9 => h9) (cd := (1, 4)) rfl dDA_multiplyRow_16 (fun v22 hv22 => ?_)
      obtain rfl := (show v22 = .int (nI 4) from hv22)
      refine mi_ge (tgt := 59) hx hb dDA_multiplyRow_19 (by decide) (by omega) (by omega) (fun h21 => ?_) (fun h21 => absurd h21 (by omega))
      exact mp_vret hx hb hr hlk hP hD hS (s22, pl) ⟨⟨hR.symm, hF, trivial⟩, hO⟩ [] rfl rfl rfl (by omega) (by omega) dDA_multiplyRow_59
    | succ n21 ih21 =>
      intro i21 s22 pl ls H locs hm21 hF hR hl hO hP hD hS
      refine lv_iload hx hb dDA_multiplyRow_13 (lv_at hl 0 rfl) ?_
      refine lv_aload_n hx hb dDA_multiplyRow_15 rfl (lv_at hl 2 rfl) ?_
      refine nw_get (C := "LatticeKeys$DsaSet") (TT := T_DS) (N := 17) hx hb hts (wg_ft i_DS) hown hK hO k_st (kn := 9) (ci := 2) (fl := [(1, 4), (1, 4), (1, 2), (1, 3), (1, 39), (1, 32), (1, 18), (1, 131072), (1, 44), (1, 6), (1, 95232), (1, 80), (1, 78), (1, 1312), (1, 2560), (1, 2336), (1, 2420)]) rfl hP rfl 1 (by decide) (hts _ (wg_t kw_305)) (fun _ h9 => h9) (cd := (1, 4)) rfl dDA_multiplyRow_16 (fun v23 hv23 => ?_)
      obtain rfl := (show v23 = .int (nI 4) from hv23)
      refine mi_ge (tgt := 59) hx hb dDA_multiplyRow_19 (by decide) (by omega) (by omega) (fun h22 => absurd h22 (by omega)) (fun h22 => ?_)
      refine lv_aload_n hx hb dDA_multiplyRow_22 rfl (lv_at hl 1 rfl) ?_
      refine nw_get (C := "LatticeKeys$Dsa") (TT := T_DA) (N := 17) hx hb hts (wg_ft i_DA) hown hK hO k_h0 (kn := 39) (ci := 6) (fl := [(3, 16), (3, 22), (3, 37), (3, 40), (3, 97), (3, 105), (3, 114), (3, 123), (3, 131), (3, 140), (3, 141), (3, 142), (3, 143), (3, 144), (3, 145), (3, 146), (3, 147)]) rfl hP rfl 1 (by decide) (hts _ (wg_t kw_166)) (fun _ h9 => h9) (cd := (3, 22)) rfl dDA_multiplyRow_23 (fun v24 hv24 => ?_)
      obtain ⟨r23, rfl, kr23⟩ := (show ∃ r : Nat, v24 = .ref r ∧ T r = some 22 from hv24)
      refine lv_aload_n hx hb dDA_multiplyRow_26 rfl (lv_at hl 1 rfl) ?_
      refine nw_get (C := "LatticeKeys$Dsa") (TT := T_DA) (N := 17) hx hb hts (wg_ft i_DA) hown hK hO k_h0 (kn := 39) (ci := 6) (fl := [(3, 16), (3, 22), (3, 37), (3, 40), (3, 97), (3, 105), (3, 114), (3, 123), (3, 131), (3, 140), (3, 141), (3, 142), (3, 143), (3, 144), (3, 145), (3, 146), (3, 147)]) rfl hP rfl 8 (by decide) (hts _ (wg_t kw_173)) (fun _ h9 => h9) (cd := (3, 131)) rfl dDA_multiplyRow_27 (fun v25 hv25 => ?_)
      obtain ⟨r24, rfl, kr24⟩ := (show ∃ r : Nat, v25 = .ref r ∧ T r = some 131 from hv25)
      refine lv_iload_n hx hb dDA_multiplyRow_30 rfl (lv_at hl 3 rfl) ?_
      refine nw_aald3 hx hb hK hO kr24 (k := 131) (b := 132) rfl hP (by omega) (by omega) dDA_multiplyRow_31 (fun r25 kr25 => ?_)
      have hn22 : nsp (132 + rw) = (0, 256, []) := rows_ok 132 8 (by decide) _ (by omega)
      refine lv_aload_n hx hb dDA_multiplyRow_32 rfl (lv_at hl 1 rfl) ?_
      refine nw_get (C := "LatticeKeys$Dsa") (TT := T_DA) (N := 17) hx hb hts (wg_ft i_DA) hown hK hO k_h0 (kn := 39) (ci := 6) (fl := [(3, 16), (3, 22), (3, 37), (3, 40), (3, 97), (3, 105), (3, 114), (3, 123), (3, 131), (3, 140), (3, 141), (3, 142), (3, 143), (3, 144), (3, 145), (3, 146), (3, 147)]) rfl hP rfl 3 (by decide) (hts _ (wg_t kw_168)) (fun _ h9 => h9) (cd := (3, 40)) rfl dDA_multiplyRow_33 (fun v26 hv26 => ?_)
      obtain ⟨r26, rfl, kr26⟩ := (show ∃ r : Nat, v26 = .ref r ∧ T r = some 40 from hv26)
      refine lv_aload_n hx hb dDA_multiplyRow_36 rfl (lv_at hl 2 rfl) ?_
      refine nw_get (C := "LatticeKeys$DsaSet") (TT := T_DS) (N := 17) hx hb hts (wg_ft i_DS) hown hK hO k_st (kn := 9) (ci := 2) (fl := [(1, 4), (1, 4), (1, 2), (1, 3), (1, 39), (1, 32), (1, 18), (1, 131072), (1, 44), (1, 6), (1, 95232), (1, 80), (1, 78), (1, 1312), (1, 2560), (1, 2336), (1, 2420)]) rfl hP rfl 1 (by decide) (hts _ (wg_t kw_305)) (fun _ h9 => h9) (cd := (1, 4)) rfl dDA_multiplyRow_37 (fun v27 hv27 => ?_)
      obtain rfl := (show v27 = .int (nI 4) from hv27)
      refine lv_iload_n hx hb dDA_multiplyRow_40 rfl (lv_at hl 3 rfl) ?_
      refine mi_imul hx hb dDA_multiplyRow_41 ?_
      refine lv_iload hx hb dDA_multiplyRow_42 (lv_at hl 0 rfl) ?_
      refine mi_iadd hx hb dDA_multiplyRow_44 ?_
      refine nw_aald3 hx hb hK hO kr26 (k := 40) (b := 41) rfl hP (by omega) (by omega) dDA_multiplyRow_45 (fun r27 kr27 => ?_)
      have hn23 : nsp (41 + ((4 * rw) + i21)) = (0, 256, []) := rows_ok 41 56 (by decide) _ (by omega)
      refine lv_aload_n hx hb dDA_multiplyRow_46 rfl (lv_at hl 4 rfl) ?_
      refine lv_iload hx hb dDA_multiplyRow_47 (lv_at hl 0 rfl) ?_
      refine nw_aald3 hx hb hK hO k_vc (k := 97) (b := 98) rfl hP (by omega) (by omega) dDA_multiplyRow_49 (fun r28 kr28 => ?_)
      have hn24 : nsp (98 + i21) = (0, 256, []) := rows_ok 98 7 (by decide) _ (by omega)
      refine mp_v (cx := []) (wr := []) hP hD hS hA [] [] rfl rfl rfl (by decide) (va_runV (As := [.ref r25, .ref r27, .ref r28]) (rest := []) F (N_RG_addProduct_8 l g _ T s22 pl hO hU r23 r25 r27 r28 (132 + rw) (41 + ((4 * rw) + i21)) (98 + i21) kr23 kr25 hn22 kr27 hn23 kr28 hn24) (cwV 3 hts (wg_app (wg_c kw_719 (wg_c kw_654 (wg_c kw_655 (wg_c kw_4 wg_n)))) kw_656) rfl rfl rfl (by decide +kernel) ⟨by decide, by decide⟩) (pn_W "LatticeKeys$Ring" (en_ok g) (ci := 4) (kn := 22) (fl := [(1, 8380417), (1, 8), (1, 8347681), (3, 23)]) hK hO kr23 rfl hP hD hS hA hE [] rfl rfl rfl) rfl rfl hl.1 rfl (lv_room (Nat.le_of_ble_eq_true rfl)) dDA_multiplyRow_50 ⟨by omega, by omega⟩) (fun  u22 H locs hu22 hP hD hS => ?_)
      obtain ⟨s23, pl⟩ := u22
      obtain ⟨⟨eq22, hFc22, -⟩, hO⟩ := hu22
      have hO : okn g T s23 pl := hO
      have hP : va_P g.1 vcl ([] ++ pl) _ := hP
      have hD : va_D _ ([] ++ pl) := hD
      have hFc22 : frm (M_RG_addProduct_8 (132 + rw)) s22 s23 := hFc22
      replace hR := bnd_step hR eq22
      have hF := frm_tr hF hFc22 (fun k hk => by unfold M_RG_addProduct_8 at hk; unfold M_DA_multiplyRow_secret_0; omega)
      refine W.widen (k := 0) (n := 0) (by omega) (by omega) ?_
      refine mi_iinc (k := 0) (x := i21) (d := 1) (y := i21 + 1) (lv' := [(4, .int (nI (i21 + 1))), (0, .ref h0), (1, .ref st), (2, .int (nI rw)), (3, .ref vc)]) hx hb dDA_multiplyRow_53 hl rfl (by decide) rfl (by decide) rfl (fun ls hl => ?_)
      refine lv_goto (tgt := 13) hx hb dDA_multiplyRow_56 (by decide) ?_
      exact ih21 (i21 + 1) s23 pl ls H locs (by omega) hF hR (lv_sub hl [0, 1, 2, 3, 4] rfl) hO hP hD hS
  exact lp21 4 0 s21 pl ls _ _ (by omega) hF hR (lv_sub hl [0, 1, 2, 3, 4] rfl) hO hP hD hS
def M_DA_multiplyRow_secret_1 (k : Nat) : Prop := (132 ≤ k ∧ k < 140) ∨ (0 : Nat) = 1
noncomputable def F_DA_multiplyRow_secret_1_L0 (rw : Nat) : Nat → Nat → Sto → Sto
  | 0, i21, s22 => s22
  | n21 + 1, i21, s22 => bnd (F_RG_addProduct_8 (132 + rw) (41 + ((5 * rw) + i21)) (98 + i21) s22) fun s23 => F_DA_multiplyRow_secret_1_L0 rw n21 (i21 + 1) s23
noncomputable def F_DA_multiplyRow_secret_1 (rw : Nat) (s : Sto) : Sto := bnd (F_AR_fillI (132 + rw) 256 (nI 0) s) fun s21 => F_DA_multiplyRow_secret_1_L0 rw 5 0 s21
set_option maxHeartbeats 8000000 in
set_option maxRecDepth 100000 in
theorem N_DA_multiplyRow_secret_1 (l : Launch) (g : Gd) (sz : Nat) (T : TyN) (s : Sto) (pl : va_W) (hO : okn g T s pl) (hU : inj T) (h0 st vc : Nat) (rw : Nat) (k_h0 : T h0 = some 39) (k_st : T st = some 10) (k_vc : T vc = some 97) (h1 : rw < 6)  : Met l y_DA_multiplyRow w_DA_multiplyRow ({ frames := 1, cells := 0, slots := 0, locals := 25 } : Room) (va_Pc [.ref h0, .ref st, .int (nI rw), .ref vc] (pr (en g) g.1 vcl sz ([] ++ pl))) (va_Qv (fun (u : (Sto) × va_W) => (u.1 = F_DA_multiplyRow_secret_1 rw s ∧ frm (M_DA_multiplyRow_secret_1) s u.1 ∧ True) ∧ okn g T u.1 u.2) (po g.1 vcl (va_A ([] ++ pl) sz) (fun (u : (Sto) × va_W) => [] ++ u.2)) (va_A ([] ++ pl) sz)) 0 0 (va_A ([] ++ pl) sz) := by
  refine mc_entry (cc := c_DA_multiplyRow) (maxL := 5) (ret := none) (by decide) rfl (Nat.le_of_ble_eq_true rfl) ?_
  intro p e s0 m args below meth c ls F hr hlk hnm hsz hP hD hE hA hl
  obtain ⟨hx, hb, hml, hown, hts⟩ := id F
  have hK := hE.1
  generalize va_A ([] ++ pl) sz = A at hD hE hA ⊢
  have hS : va_S A s0.heap s0.heap [] := va_S.rf
  have hl : lv_has ls 5 [(0, .ref h0), (1, .ref st), (2, .int (nI rw)), (3, .ref vc)] := hl
  have hR : F_DA_multiplyRow_secret_1 rw s = F_DA_multiplyRow_secret_1 rw s := rfl
  have hF : frm (M_DA_multiplyRow_secret_1) s s := frm_rf
  refine lv_aload_n hx hb dDA_multiplyRow_0 rfl (lv_at hl 0 rfl) ?_
  refine nw_get (C := "LatticeKeys$Dsa") (TT := T_DA) (N := 17) hx hb hts (wg_ft i_DA) hown hK hO k_h0 (kn := 39) (ci := 6) (fl := [(3, 16), (3, 22), (3, 37), (3, 40), (3, 97), (3, 105), (3, 114), (3, 123), (3, 131), (3, 140), (3, 141), (3, 142), (3, 143), (3, 144), (3, 145), (3, 146), (3, 147)]) rfl hP rfl 8 (by decide) (hts _ (wg_t kw_173)) (fun _ h9 => h9) (cd := (3, 131)) rfl dDA_multiplyRow_1 (fun v21 hv21 => ?_)
  obtain ⟨r21, rfl, kr21⟩ := (show ∃ r : Nat, v21 = .ref r ∧ T r = some 131 from hv21)
  refine lv_iload_n hx hb dDA_multiplyRow_4 rfl (lv_at hl 2 rfl) ?_
  refine nw_aald3 hx hb hK hO kr21 (k := 131) (b := 132) rfl hP (by omega) (by omega) dDA_multiplyRow_5 (fun r22 kr22 => ?_)
  have hn21 : nsp (132 + rw) = (0, 256, []) := rows_ok 132 8 (by decide) _ (by omega)
  refine lv_iconst (v := nI 0) hx hb dDA_multiplyRow_6 (by decide) ?_
  refine mp_v (cx := []) (wr := []) hP hD hS hA [] [] rfl rfl rfl (by decide) (va_runS (As := [.ref r22, .int (nI 0)]) (rest := []) F (N_AR_fillI l g _ T s pl hO hU r22 (132 + rw) 256 (nI 0) kr22 hn21 (by omega)) (va_cwS 2 hts (wg_app (wg_c kw_716 (wg_c kw_717 (wg_c kw_21 wg_n))) kw_718) rfl rfl rfl (by decide +kernel) ⟨by decide, by decide⟩) (pp_S (en_ok g) hP hD hS hA hE [] rfl rfl) rfl rfl hl.1 rfl (lv_room (Nat.le_of_ble_eq_true rfl)) dDA_multiplyRow_7 ⟨by omega, by omega⟩) (fun  u21 H locs hu21 hP hD hS => ?_)
  obtain ⟨s21, pl⟩ := u21
  obtain ⟨⟨eq21, hFc21, -⟩, hO⟩ := hu21
  have hO : okn g T s21 pl := hO
  have hP : va_P g.1 vcl ([] ++ pl) _ := hP
  have hD : va_D _ ([] ++ pl) := hD
  have hFc21 : frm (M_AR_fillI (132 + rw)) s s21 := hFc21
  replace hR := bnd_step hR eq21
  have hF := frm_tr hF hFc21 (fun k hk => by unfold M_AR_fillI at hk; unfold M_DA_multiplyRow_secret_1; omega)
  refine W.widen (k := 0) (n := 0) (by omega) (by omega) ?_
  refine lv_iconst (v := nI 0) hx hb dDA_multiplyRow_10 (by decide) ?_
  refine lv_istore (lv' := [(4, .int (nI 0)), (0, .ref h0), (1, .ref st), (2, .int (nI rw)), (3, .ref vc)]) hx hb dDA_multiplyRow_11 hl (by decide) rfl (fun ls hl => ?_)
  have lp21 : ∀ (n21 : Nat) (i21 : Nat) (s22 : Sto) (pl : va_W) (ls : Array Slot) (H : Heap) (locs : List Loc), n21 + i21 = 5 → frm (M_DA_multiplyRow_secret_1) s s22 → F_DA_multiplyRow_secret_1 rw s = F_DA_multiplyRow_secret_1_L0 rw n21 i21 s22 → lv_has ls 5 [(4, .int (nI i21)), (0, .ref h0), (1, .ref st), (2, .int (nI rw)), (3, .ref vc)] → okn g T s22 pl → va_P g.1 vcl ([] ++ pl) H → va_D A ([] ++ pl) → va_S A s0.heap H locs → W p l e ({ frames := 1, cells := 0, slots := 0, locals := 25 } : Room) s0 m args below meth c H locs 0 0 (MQ below (va_Qv (fun (u : (Sto) × va_W) => (u.1 = F_DA_multiplyRow_secret_1 rw s ∧ frm (M_DA_multiplyRow_secret_1) s u.1 ∧ True) ∧ okn g T u.1 u.2) (po g.1 vcl A (fun (u : (Sto) × va_W) => [] ++ u.2)) A) args s0 0 0 A) (F0 m 13 ls []) := by
    intro n21
    induction n21 with
    | zero =>
      intro i21 s22 pl ls H locs hm21 hF hR hl hO hP hD hS
      refine lv_iload hx hb dDA_multiplyRow_13 (lv_at hl 0 rfl) ?_
      refine lv_aload_n hx hb dDA_multiplyRow_15 rfl (lv_at hl 2 rfl) ?_
      refine nw_get (C := "LatticeKeys$DsaSet") (TT := T_DS) (N := 17) hx hb hts (wg_ft i_DS) hown hK hO k_st (kn := 10) (ci := 2) (fl := [(1, 6), (1, 5), (1, 4), (1, 4), (1, 49), (1, 48), (1, 20), (1, 524288), (1, 16), (1, 4), (1, 261888), (1, 55), (1, 196), (1, 1952), (1, 4032), (1, 3248), (1, 3309)]) rfl hP rfl 1 (by decide) (hts _ (wg_t kw_305)) (fun _ h9 => h9) (cd := (1, 5)) rfl dDA_multiplyRow_16 (fun v22 hv22 => ?_)
      obtain rfl := (show v22 = .int (nI 5) from hv22)
      refine mi_ge (tgt := 59) hx hb dDA_multiplyRow_19 (by decide) (by omega) (by omega) (fun h21 => ?_) (fun h21 => absurd h21 (by omega))
      exact mp_vret hx hb hr hlk hP hD hS (s22, pl) ⟨⟨hR.symm, hF, trivial⟩, hO⟩ [] rfl rfl rfl (by omega) (by omega) dDA_multiplyRow_59
    | succ n21 ih21 =>
      intro i21 s22 pl ls H locs hm21 hF hR hl hO hP hD hS
      refine lv_iload hx hb dDA_multiplyRow_13 (lv_at hl 0 rfl) ?_
      refine lv_aload_n hx hb dDA_multiplyRow_15 rfl (lv_at hl 2 rfl) ?_
      refine nw_get (C := "LatticeKeys$DsaSet") (TT := T_DS) (N := 17) hx hb hts (wg_ft i_DS) hown hK hO k_st (kn := 10) (ci := 2) (fl := [(1, 6), (1, 5), (1, 4), (1, 4), (1, 49), (1, 48), (1, 20), (1, 524288), (1, 16), (1, 4), (1, 261888), (1, 55), (1, 196), (1, 1952), (1, 4032), (1, 3248), (1, 3309)]) rfl hP rfl 1 (by decide) (hts _ (wg_t kw_305)) (fun _ h9 => h9) (cd := (1, 5)) rfl dDA_multiplyRow_16 (fun v23 hv23 => ?_)
      obtain rfl := (show v23 = .int (nI 5) from hv23)
      refine mi_ge (tgt := 59) hx hb dDA_multiplyRow_19 (by decide) (by omega) (by omega) (fun h22 => absurd h22 (by omega)) (fun h22 => ?_)
      refine lv_aload_n hx hb dDA_multiplyRow_22 rfl (lv_at hl 1 rfl) ?_
      refine nw_get (C := "LatticeKeys$Dsa") (TT := T_DA) (N := 17) hx hb hts (wg_ft i_DA) hown hK hO k_h0 (kn := 39) (ci := 6) (fl := [(3, 16), (3, 22), (3, 37), (3, 40), (3, 97), (3, 105), (3, 114), (3, 123), (3, 131), (3, 140), (3, 141), (3, 142), (3, 143), (3, 144), (3, 145), (3, 146), (3, 147)]) rfl hP rfl 1 (by decide) (hts _ (wg_t kw_166)) (fun _ h9 => h9) (cd := (3, 22)) rfl dDA_multiplyRow_23 (fun v24 hv24 => ?_)
      obtain ⟨r23, rfl, kr23⟩ := (show ∃ r : Nat, v24 = .ref r ∧ T r = some 22 from hv24)
      refine lv_aload_n hx hb dDA_multiplyRow_26 rfl (lv_at hl 1 rfl) ?_
      refine nw_get (C := "LatticeKeys$Dsa") (TT := T_DA) (N := 17) hx hb hts (wg_ft i_DA) hown hK hO k_h0 (kn := 39) (ci := 6) (fl := [(3, 16), (3, 22), (3, 37), (3, 40), (3, 97), (3, 105), (3, 114), (3, 123), (3, 131), (3, 140), (3, 141), (3, 142), (3, 143), (3, 144), (3, 145), (3, 146), (3, 147)]) rfl hP rfl 8 (by decide) (hts _ (wg_t kw_173)) (fun _ h9 => h9) (cd := (3, 131)) rfl dDA_multiplyRow_27 (fun v25 hv25 => ?_)
      obtain ⟨r24, rfl, kr24⟩ := (show ∃ r : Nat, v25 = .ref r ∧ T r = some 131 from hv25)
      refine lv_iload_n hx hb dDA_multiplyRow_30 rfl (lv_at hl 3 rfl) ?_
      refine nw_aald3 hx hb hK hO kr24 (k := 131) (b := 132) rfl hP (by omega) (by omega) dDA_multiplyRow_31 (fun r25 kr25 => ?_)
      have hn22 : nsp (132 + rw) = (0, 256, []) := rows_ok 132 8 (by decide) _ (by omega)
      refine lv_aload_n hx hb dDA_multiplyRow_32 rfl (lv_at hl 1 rfl) ?_
      refine nw_get (C := "LatticeKeys$Dsa") (TT := T_DA) (N := 17) hx hb hts (wg_ft i_DA) hown hK hO k_h0 (kn := 39) (ci := 6) (fl := [(3, 16), (3, 22), (3, 37), (3, 40), (3, 97), (3, 105), (3, 114), (3, 123), (3, 131), (3, 140), (3, 141), (3, 142), (3, 143), (3, 144), (3, 145), (3, 146), (3, 147)]) rfl hP rfl 3 (by decide) (hts _ (wg_t kw_168)) (fun _ h9 => h9) (cd := (3, 40)) rfl dDA_multiplyRow_33 (fun v26 hv26 => ?_)
      obtain ⟨r26, rfl, kr26⟩ := (show ∃ r : Nat, v26 = .ref r ∧ T r = some 40 from hv26)
      refine lv_aload_n hx hb dDA_multiplyRow_36 rfl (lv_at hl 2 rfl) ?_
      refine nw_get (C := "LatticeKeys$DsaSet") (TT := T_DS) (N := 17) hx hb hts (wg_ft i_DS) hown hK hO k_st (kn := 10) (ci := 2) (fl := [(1, 6), (1, 5), (1, 4), (1, 4), (1, 49), (1, 48), (1, 20), (1, 524288), (1, 16), (1, 4), (1, 261888), (1, 55), (1, 196), (1, 1952), (1, 4032), (1, 3248), (1, 3309)]) rfl hP rfl 1 (by decide) (hts _ (wg_t kw_305)) (fun _ h9 => h9) (cd := (1, 5)) rfl dDA_multiplyRow_37 (fun v27 hv27 => ?_)
      obtain rfl := (show v27 = .int (nI 5) from hv27)
      refine lv_iload_n hx hb dDA_multiplyRow_40 rfl (lv_at hl 3 rfl) ?_
      refine mi_imul hx hb dDA_multiplyRow_41 ?_
      refine lv_iload hx hb dDA_multiplyRow_42 (lv_at hl 0 rfl) ?_
      refine mi_iadd hx hb dDA_multiplyRow_44 ?_
      refine nw_aald3 hx hb hK hO kr26 (k := 40) (b := 41) rfl hP (by omega) (by omega) dDA_multiplyRow_45 (fun r27 kr27 => ?_)
      have hn23 : nsp (41 + ((5 * rw) + i21)) = (0, 256, []) := rows_ok 41 56 (by decide) _ (by omega)
      refine lv_aload_n hx hb dDA_multiplyRow_46 rfl (lv_at hl 4 rfl) ?_
      refine lv_iload hx hb dDA_multiplyRow_47 (lv_at hl 0 rfl) ?_
      refine nw_aald3 hx hb hK hO k_vc (k := 97) (b := 98) rfl hP (by omega) (by omega) dDA_multiplyRow_49 (fun r28 kr28 => ?_)
      have hn24 : nsp (98 + i21) = (0, 256, []) := rows_ok 98 7 (by decide) _ (by omega)
      refine mp_v (cx := []) (wr := []) hP hD hS hA [] [] rfl rfl rfl (by decide) (va_runV (As := [.ref r25, .ref r27, .ref r28]) (rest := []) F (N_RG_addProduct_8 l g _ T s22 pl hO hU r23 r25 r27 r28 (132 + rw) (41 + ((5 * rw) + i21)) (98 + i21) kr23 kr25 hn22 kr27 hn23 kr28 hn24) (cwV 3 hts (wg_app (wg_c kw_719 (wg_c kw_654 (wg_c kw_655 (wg_c kw_4 wg_n)))) kw_656) rfl rfl rfl (by decide +kernel) ⟨by decide, by decide⟩) (pn_W "LatticeKeys$Ring" (en_ok g) (ci := 4) (kn := 22) (fl := [(1, 8380417), (1, 8), (1, 8347681), (3, 23)]) hK hO kr23 rfl hP hD hS hA hE [] rfl rfl rfl) rfl rfl hl.1 rfl (lv_room (Nat.le_of_ble_eq_true rfl)) dDA_multiplyRow_50 ⟨by omega, by omega⟩) (fun  u22 H locs hu22 hP hD hS => ?_)
      obtain ⟨s23, pl⟩ := u22
      obtain ⟨⟨eq22, hFc22, -⟩, hO⟩ := hu22
      have hO : okn g T s23 pl := hO
      have hP : va_P g.1 vcl ([] ++ pl) _ := hP
      have hD : va_D _ ([] ++ pl) := hD
      have hFc22 : frm (M_RG_addProduct_8 (132 + rw)) s22 s23 := hFc22
      replace hR := bnd_step hR eq22
      have hF := frm_tr hF hFc22 (fun k hk => by unfold M_RG_addProduct_8 at hk; unfold M_DA_multiplyRow_secret_1; omega)
      refine W.widen (k := 0) (n := 0) (by omega) (by omega) ?_
      refine mi_iinc (k := 0) (x := i21) (d := 1) (y := i21 + 1) (lv' := [(4, .int (nI (i21 + 1))), (0, .ref h0), (1, .ref st), (2, .int (nI rw)), (3, .ref vc)]) hx hb dDA_multiplyRow_53 hl rfl (by decide) rfl (by decide) rfl (fun ls hl => ?_)
      refine lv_goto (tgt := 13) hx hb dDA_multiplyRow_56 (by decide) ?_
      exact ih21 (i21 + 1) s23 pl ls H locs (by omega) hF hR (lv_sub hl [0, 1, 2, 3, 4] rfl) hO hP hD hS
  exact lp21 5 0 s21 pl ls _ _ (by omega) hF hR (lv_sub hl [0, 1, 2, 3, 4] rfl) hO hP hD hS
def M_DA_multiplyRow_secret_2 (k : Nat) : Prop := (132 ≤ k ∧ k < 140) ∨ (0 : Nat) = 1
noncomputable def F_DA_multiplyRow_secret_2_L0 (rw : Nat) : Nat → Nat → Sto → Sto
  | 0, i21, s22 => s22
  | n21 + 1, i21, s22 => bnd (F_RG_addProduct_8 (132 + rw) (41 + ((7 * rw) + i21)) (98 + i21) s22) fun s23 => F_DA_multiplyRow_secret_2_L0 rw n21 (i21 + 1) s23
noncomputable def F_DA_multiplyRow_secret_2 (rw : Nat) (s : Sto) : Sto := bnd (F_AR_fillI (132 + rw) 256 (nI 0) s) fun s21 => F_DA_multiplyRow_secret_2_L0 rw 7 0 s21
set_option maxHeartbeats 8000000 in
set_option maxRecDepth 100000 in
theorem N_DA_multiplyRow_secret_2 (l : Launch) (g : Gd) (sz : Nat) (T : TyN) (s : Sto) (pl : va_W) (hO : okn g T s pl) (hU : inj T) (h0 st vc : Nat) (rw : Nat) (k_h0 : T h0 = some 39) (k_st : T st = some 11) (k_vc : T vc = some 97) (h1 : rw < 8)  : Met l y_DA_multiplyRow w_DA_multiplyRow ({ frames := 1, cells := 0, slots := 0, locals := 25 } : Room) (va_Pc [.ref h0, .ref st, .int (nI rw), .ref vc] (pr (en g) g.1 vcl sz ([] ++ pl))) (va_Qv (fun (u : (Sto) × va_W) => (u.1 = F_DA_multiplyRow_secret_2 rw s ∧ frm (M_DA_multiplyRow_secret_2) s u.1 ∧ True) ∧ okn g T u.1 u.2) (po g.1 vcl (va_A ([] ++ pl) sz) (fun (u : (Sto) × va_W) => [] ++ u.2)) (va_A ([] ++ pl) sz)) 0 0 (va_A ([] ++ pl) sz) := by
  refine mc_entry (cc := c_DA_multiplyRow) (maxL := 5) (ret := none) (by decide) rfl (Nat.le_of_ble_eq_true rfl) ?_
  intro p e s0 m args below meth c ls F hr hlk hnm hsz hP hD hE hA hl
  obtain ⟨hx, hb, hml, hown, hts⟩ := id F
  have hK := hE.1
  generalize va_A ([] ++ pl) sz = A at hD hE hA ⊢
  have hS : va_S A s0.heap s0.heap [] := va_S.rf
  have hl : lv_has ls 5 [(0, .ref h0), (1, .ref st), (2, .int (nI rw)), (3, .ref vc)] := hl
  have hR : F_DA_multiplyRow_secret_2 rw s = F_DA_multiplyRow_secret_2 rw s := rfl
  have hF : frm (M_DA_multiplyRow_secret_2) s s := frm_rf
  refine lv_aload_n hx hb dDA_multiplyRow_0 rfl (lv_at hl 0 rfl) ?_
  refine nw_get (C := "LatticeKeys$Dsa") (TT := T_DA) (N := 17) hx hb hts (wg_ft i_DA) hown hK hO k_h0 (kn := 39) (ci := 6) (fl := [(3, 16), (3, 22), (3, 37), (3, 40), (3, 97), (3, 105), (3, 114), (3, 123), (3, 131), (3, 140), (3, 141), (3, 142), (3, 143), (3, 144), (3, 145), (3, 146), (3, 147)]) rfl hP rfl 8 (by decide) (hts _ (wg_t kw_173)) (fun _ h9 => h9) (cd := (3, 131)) rfl dDA_multiplyRow_1 (fun v21 hv21 => ?_)
  obtain ⟨r21, rfl, kr21⟩ := (show ∃ r : Nat, v21 = .ref r ∧ T r = some 131 from hv21)
  refine lv_iload_n hx hb dDA_multiplyRow_4 rfl (lv_at hl 2 rfl) ?_
  refine nw_aald3 hx hb hK hO kr21 (k := 131) (b := 132) rfl hP (by omega) (by omega) dDA_multiplyRow_5 (fun r22 kr22 => ?_)
  have hn21 : nsp (132 + rw) = (0, 256, []) := rows_ok 132 8 (by decide) _ (by omega)
  refine lv_iconst (v := nI 0) hx hb dDA_multiplyRow_6 (by decide) ?_
  refine mp_v (cx := []) (wr := []) hP hD hS hA [] [] rfl rfl rfl (by decide) (va_runS (As := [.ref r22, .int (nI 0)]) (rest := []) F (N_AR_fillI l g _ T s pl hO hU r22 (132 + rw) 256 (nI 0) kr22 hn21 (by omega)) (va_cwS 2 hts (wg_app (wg_c kw_716 (wg_c kw_717 (wg_c kw_21 wg_n))) kw_718) rfl rfl rfl (by decide +kernel) ⟨by decide, by decide⟩) (pp_S (en_ok g) hP hD hS hA hE [] rfl rfl) rfl rfl hl.1 rfl (lv_room (Nat.le_of_ble_eq_true rfl)) dDA_multiplyRow_7 ⟨by omega, by omega⟩) (fun  u21 H locs hu21 hP hD hS => ?_)
  obtain ⟨s21, pl⟩ := u21
  obtain ⟨⟨eq21, hFc21, -⟩, hO⟩ := hu21
  have hO : okn g T s21 pl := hO
  have hP : va_P g.1 vcl ([] ++ pl) _ := hP
  have hD : va_D _ ([] ++ pl) := hD
  have hFc21 : frm (M_AR_fillI (132 + rw)) s s21 := hFc21
  replace hR := bnd_step hR eq21
  have hF := frm_tr hF hFc21 (fun k hk => by unfold M_AR_fillI at hk; unfold M_DA_multiplyRow_secret_2; omega)
  refine W.widen (k := 0) (n := 0) (by omega) (by omega) ?_
  refine lv_iconst (v := nI 0) hx hb dDA_multiplyRow_10 (by decide) ?_
  refine lv_istore (lv' := [(4, .int (nI 0)), (0, .ref h0), (1, .ref st), (2, .int (nI rw)), (3, .ref vc)]) hx hb dDA_multiplyRow_11 hl (by decide) rfl (fun ls hl => ?_)
  have lp21 : ∀ (n21 : Nat) (i21 : Nat) (s22 : Sto) (pl : va_W) (ls : Array Slot) (H : Heap) (locs : List Loc), n21 + i21 = 7 → frm (M_DA_multiplyRow_secret_2) s s22 → F_DA_multiplyRow_secret_2 rw s = F_DA_multiplyRow_secret_2_L0 rw n21 i21 s22 → lv_has ls 5 [(4, .int (nI i21)), (0, .ref h0), (1, .ref st), (2, .int (nI rw)), (3, .ref vc)] → okn g T s22 pl → va_P g.1 vcl ([] ++ pl) H → va_D A ([] ++ pl) → va_S A s0.heap H locs → W p l e ({ frames := 1, cells := 0, slots := 0, locals := 25 } : Room) s0 m args below meth c H locs 0 0 (MQ below (va_Qv (fun (u : (Sto) × va_W) => (u.1 = F_DA_multiplyRow_secret_2 rw s ∧ frm (M_DA_multiplyRow_secret_2) s u.1 ∧ True) ∧ okn g T u.1 u.2) (po g.1 vcl A (fun (u : (Sto) × va_W) => [] ++ u.2)) A) args s0 0 0 A) (F0 m 13 ls []) := by
    intro n21
    induction n21 with
    | zero =>
      intro i21 s22 pl ls H locs hm21 hF hR hl hO hP hD hS
      refine lv_iload hx hb dDA_multiplyRow_13 (lv_at hl 0 rfl) ?_
      refine lv_aload_n hx hb dDA_multiplyRow_15 rfl (lv_at hl 2 rfl) ?_
      refine nw_get (C := "LatticeKeys$DsaSet") (TT := T_DS) (N := 17) hx hb hts (wg_ft i_DS) hown hK hO k_st (kn := 11) (ci := 2) (fl := [(1, 8), (1, 7), (1, 2), (1, 3), (1, 60), (1, 64), (1, 20), (1, 524288), (1, 16), (1, 4), (1, 261888), (1, 75), (1, 120), (1, 2592), (1, 4896), (1, 4544), (1, 4627)]) rfl hP rfl 1 (by decide) (hts _ (wg_t kw_305)) (fun _ h9 => h9) (cd := (1, 7)) rfl dDA_multiplyRow_16 (fun v22 hv22 => ?_)
      obtain rfl := (show v22 = .int (nI 7) from hv22)
      refine mi_ge (tgt := 59) hx hb dDA_multiplyRow_19 (by decide) (by omega) (by omega) (fun h21 => ?_) (fun h21 => absurd h21 (by omega))
      exact mp_vret hx hb hr hlk hP hD hS (s22, pl) ⟨⟨hR.symm, hF, trivial⟩, hO⟩ [] rfl rfl rfl (by omega) (by omega) dDA_multiplyRow_59
    | succ n21 ih21 =>
      intro i21 s22 pl ls H locs hm21 hF hR hl hO hP hD hS
      refine lv_iload hx hb dDA_multiplyRow_13 (lv_at hl 0 rfl) ?_
      refine lv_aload_n hx hb dDA_multiplyRow_15 rfl (lv_at hl 2 rfl) ?_
      refine nw_get (C := "LatticeKeys$DsaSet") (TT := T_DS) (N := 17) hx hb hts (wg_ft i_DS) hown hK hO k_st (kn := 11) (ci := 2) (fl := [(1, 8), (1, 7), (1, 2), (1, 3), (1, 60), (1, 64), (1, 20), (1, 524288), (1, 16), (1, 4), (1, 261888), (1, 75), (1, 120), (1, 2592), (1, 4896), (1, 4544), (1, 4627)]) rfl hP rfl 1 (by decide) (hts _ (wg_t kw_305)) (fun _ h9 => h9) (cd := (1, 7)) rfl dDA_multiplyRow_16 (fun v23 hv23 => ?_)
      obtain rfl := (show v23 = .int (nI 7) from hv23)
      refine mi_ge (tgt := 59) hx hb dDA_multiplyRow_19 (by decide) (by omega) (by omega) (fun h22 => absurd h22 (by omega)) (fun h22 => ?_)
      refine lv_aload_n hx hb dDA_multiplyRow_22 rfl (lv_at hl 1 rfl) ?_
      refine nw_get (C := "LatticeKeys$Dsa") (TT := T_DA) (N := 17) hx hb hts (wg_ft i_DA) hown hK hO k_h0 (kn := 39) (ci := 6) (fl := [(3, 16), (3, 22), (3, 37), (3, 40), (3, 97), (3, 105), (3, 114), (3, 123), (3, 131), (3, 140), (3, 141), (3, 142), (3, 143), (3, 144), (3, 145), (3, 146), (3, 147)]) rfl hP rfl 1 (by decide) (hts _ (wg_t kw_166)) (fun _ h9 => h9) (cd := (3, 22)) rfl dDA_multiplyRow_23 (fun v24 hv24 => ?_)
      obtain ⟨r23, rfl, kr23⟩ := (show ∃ r : Nat, v24 = .ref r ∧ T r = some 22 from hv24)
      refine lv_aload_n hx hb dDA_multiplyRow_26 rfl (lv_at hl 1 rfl) ?_
      refine nw_get (C := "LatticeKeys$Dsa") (TT := T_DA) (N := 17) hx hb hts (wg_ft i_DA) hown hK hO k_h0 (kn := 39) (ci := 6) (fl := [(3, 16), (3, 22), (3, 37), (3, 40), (3, 97), (3, 105), (3, 114), (3, 123), (3, 131), (3, 140), (3, 141), (3, 142), (3, 143), (3, 144), (3, 145), (3, 146), (3, 147)]) rfl hP rfl 8 (by decide) (hts _ (wg_t kw_173)) (fun _ h9 => h9) (cd := (3, 131)) rfl dDA_multiplyRow_27 (fun v25 hv25 => ?_)
      obtain ⟨r24, rfl, kr24⟩ := (show ∃ r : Nat, v25 = .ref r ∧ T r = some 131 from hv25)
      refine lv_iload_n hx hb dDA_multiplyRow_30 rfl (lv_at hl 3 rfl) ?_
      refine nw_aald3 hx hb hK hO kr24 (k := 131) (b := 132) rfl hP (by omega) (by omega) dDA_multiplyRow_31 (fun r25 kr25 => ?_)
      have hn22 : nsp (132 + rw) = (0, 256, []) := rows_ok 132 8 (by decide) _ (by omega)
      refine lv_aload_n hx hb dDA_multiplyRow_32 rfl (lv_at hl 1 rfl) ?_
      refine nw_get (C := "LatticeKeys$Dsa") (TT := T_DA) (N := 17) hx hb hts (wg_ft i_DA) hown hK hO k_h0 (kn := 39) (ci := 6) (fl := [(3, 16), (3, 22), (3, 37), (3, 40), (3, 97), (3, 105), (3, 114), (3, 123), (3, 131), (3, 140), (3, 141), (3, 142), (3, 143), (3, 144), (3, 145), (3, 146), (3, 147)]) rfl hP rfl 3 (by decide) (hts _ (wg_t kw_168)) (fun _ h9 => h9) (cd := (3, 40)) rfl dDA_multiplyRow_33 (fun v26 hv26 => ?_)
      obtain ⟨r26, rfl, kr26⟩ := (show ∃ r : Nat, v26 = .ref r ∧ T r = some 40 from hv26)
      refine lv_aload_n hx hb dDA_multiplyRow_36 rfl (lv_at hl 2 rfl) ?_
      refine nw_get (C := "LatticeKeys$DsaSet") (TT := T_DS) (N := 17) hx hb hts (wg_ft i_DS) hown hK hO k_st (kn := 11) (ci := 2) (fl := [(1, 8), (1, 7), (1, 2), (1, 3), (1, 60), (1, 64), (1, 20), (1, 524288), (1, 16), (1, 4), (1, 261888), (1, 75), (1, 120), (1, 2592), (1, 4896), (1, 4544), (1, 4627)]) rfl hP rfl 1 (by decide) (hts _ (wg_t kw_305)) (fun _ h9 => h9) (cd := (1, 7)) rfl dDA_multiplyRow_37 (fun v27 hv27 => ?_)
      obtain rfl := (show v27 = .int (nI 7) from hv27)
      refine lv_iload_n hx hb dDA_multiplyRow_40 rfl (lv_at hl 3 rfl) ?_
      refine mi_imul hx hb dDA_multiplyRow_41 ?_
      refine lv_iload hx hb dDA_multiplyRow_42 (lv_at hl 0 rfl) ?_
      refine mi_iadd hx hb dDA_multiplyRow_44 ?_
      refine nw_aald3 hx hb hK hO kr26 (k := 40) (b := 41) rfl hP (by omega) (by omega) dDA_multiplyRow_45 (fun r27 kr27 => ?_)
      have hn23 : nsp (41 + ((7 * rw) + i21)) = (0, 256, []) := rows_ok 41 56 (by decide) _ (by omega)
      refine lv_aload_n hx hb dDA_multiplyRow_46 rfl (lv_at hl 4 rfl) ?_
      refine lv_iload hx hb dDA_multiplyRow_47 (lv_at hl 0 rfl) ?_
      refine nw_aald3 hx hb hK hO k_vc (k := 97) (b := 98) rfl hP (by omega) (by omega) dDA_multiplyRow_49 (fun r28 kr28 => ?_)
      have hn24 : nsp (98 + i21) = (0, 256, []) := rows_ok 98 7 (by decide) _ (by omega)
      refine mp_v (cx := []) (wr := []) hP hD hS hA [] [] rfl rfl rfl (by decide) (va_runV (As := [.ref r25, .ref r27, .ref r28]) (rest := []) F (N_RG_addProduct_8 l g _ T s22 pl hO hU r23 r25 r27 r28 (132 + rw) (41 + ((7 * rw) + i21)) (98 + i21) kr23 kr25 hn22 kr27 hn23 kr28 hn24) (cwV 3 hts (wg_app (wg_c kw_719 (wg_c kw_654 (wg_c kw_655 (wg_c kw_4 wg_n)))) kw_656) rfl rfl rfl (by decide +kernel) ⟨by decide, by decide⟩) (pn_W "LatticeKeys$Ring" (en_ok g) (ci := 4) (kn := 22) (fl := [(1, 8380417), (1, 8), (1, 8347681), (3, 23)]) hK hO kr23 rfl hP hD hS hA hE [] rfl rfl rfl) rfl rfl hl.1 rfl (lv_room (Nat.le_of_ble_eq_true rfl)) dDA_multiplyRow_50 ⟨by omega, by omega⟩) (fun  u22 H locs hu22 hP hD hS => ?_)
      obtain ⟨s23, pl⟩ := u22
      obtain ⟨⟨eq22, hFc22, -⟩, hO⟩ := hu22
      have hO : okn g T s23 pl := hO
      have hP : va_P g.1 vcl ([] ++ pl) _ := hP
      have hD : va_D _ ([] ++ pl) := hD
      have hFc22 : frm (M_RG_addProduct_8 (132 + rw)) s22 s23 := hFc22
      replace hR := bnd_step hR eq22
      have hF := frm_tr hF hFc22 (fun k hk => by unfold M_RG_addProduct_8 at hk; unfold M_DA_multiplyRow_secret_2; omega)
      refine W.widen (k := 0) (n := 0) (by omega) (by omega) ?_
      refine mi_iinc (k := 0) (x := i21) (d := 1) (y := i21 + 1) (lv' := [(4, .int (nI (i21 + 1))), (0, .ref h0), (1, .ref st), (2, .int (nI rw)), (3, .ref vc)]) hx hb dDA_multiplyRow_53 hl rfl (by decide) rfl (by decide) rfl (fun ls hl => ?_)
      refine lv_goto (tgt := 13) hx hb dDA_multiplyRow_56 (by decide) ?_
      exact ih21 (i21 + 1) s23 pl ls H locs (by omega) hF hR (lv_sub hl [0, 1, 2, 3, 4] rfl) hO hP hD hS
  exact lp21 7 0 s21 pl ls _ _ (by omega) hF hR (lv_sub hl [0, 1, 2, 3, 4] rfl) hO hP hD hS
def M_DA_multiplyRow_mask_0 (k : Nat) : Prop := (132 ≤ k ∧ k < 140) ∨ (0 : Nat) = 1
noncomputable def F_DA_multiplyRow_mask_0_L0 (rw : Nat) : Nat → Nat → Sto → Sto
  | 0, i21, s22 => s22
  | n21 + 1, i21, s22 => bnd (F_RG_addProduct_8 (132 + rw) (41 + ((4 * rw) + i21)) (124 + i21) s22) fun s23 => F_DA_multiplyRow_mask_0_L0 rw n21 (i21 + 1) s23
noncomputable def F_DA_multiplyRow_mask_0 (rw : Nat) (s : Sto) : Sto := bnd (F_AR_fillI (132 + rw) 256 (nI 0) s) fun s21 => F_DA_multiplyRow_mask_0_L0 rw 4 0 s21
set_option maxHeartbeats 8000000 in
set_option maxRecDepth 100000 in
theorem N_DA_multiplyRow_mask_0 (l : Launch) (g : Gd) (sz : Nat) (T : TyN) (s : Sto) (pl : va_W) (hO : okn g T s pl) (hU : inj T) (h0 st vc : Nat) (rw : Nat) (k_h0 : T h0 = some 39) (k_st : T st = some 9) (k_vc : T vc = some 123) (h1 : rw < 4)  : Met l y_DA_multiplyRow w_DA_multiplyRow ({ frames := 1, cells := 0, slots := 0, locals := 25 } : Room) (va_Pc [.ref h0, .ref st, .int (nI rw), .ref vc] (pr (en g) g.1 vcl sz ([] ++ pl))) (va_Qv (fun (u : (Sto) × va_W) => (u.1 = F_DA_multiplyRow_mask_0 rw s ∧ frm (M_DA_multiplyRow_mask_0) s u.1 ∧ True) ∧ okn g T u.1 u.2) (po g.1 vcl (va_A ([] ++ pl) sz) (fun (u : (Sto) × va_W) => [] ++ u.2)) (va_A ([] ++ pl) sz)) 0 0 (va_A ([] ++ pl) sz) := by
  refine mc_entry (cc := c_DA_multiplyRow) (maxL := 5) (ret := none) (by decide) rfl (Nat.le_of_ble_eq_true rfl) ?_
  intro p e s0 m args below meth c ls F hr hlk hnm hsz hP hD hE hA hl
  obtain ⟨hx, hb, hml, hown, hts⟩ := id F
  have hK := hE.1
  generalize va_A ([] ++ pl) sz = A at hD hE hA ⊢
  have hS : va_S A s0.heap s0.heap [] := va_S.rf
  have hl : lv_has ls 5 [(0, .ref h0), (1, .ref st), (2, .int (nI rw)), (3, .ref vc)] := hl
  have hR : F_DA_multiplyRow_mask_0 rw s = F_DA_multiplyRow_mask_0 rw s := rfl
  have hF : frm (M_DA_multiplyRow_mask_0) s s := frm_rf
  refine lv_aload_n hx hb dDA_multiplyRow_0 rfl (lv_at hl 0 rfl) ?_
  refine nw_get (C := "LatticeKeys$Dsa") (TT := T_DA) (N := 17) hx hb hts (wg_ft i_DA) hown hK hO k_h0 (kn := 39) (ci := 6) (fl := [(3, 16), (3, 22), (3, 37), (3, 40), (3, 97), (3, 105), (3, 114), (3, 123), (3, 131), (3, 140), (3, 141), (3, 142), (3, 143), (3, 144), (3, 145), (3, 146), (3, 147)]) rfl hP rfl 8 (by decide) (hts _ (wg_t kw_173)) (fun _ h9 => h9) (cd := (3, 131)) rfl dDA_multiplyRow_1 (fun v21 hv21 => ?_)
  obtain ⟨r21, rfl, kr21⟩ := (show ∃ r : Nat, v21 = .ref r ∧ T r = some 131 from hv21)
  refine lv_iload_n hx hb dDA_multiplyRow_4 rfl (lv_at hl 2 rfl) ?_
  refine nw_aald3 hx hb hK hO kr21 (k := 131) (b := 132) rfl hP (by omega) (by omega) dDA_multiplyRow_5 (fun r22 kr22 => ?_)
  have hn21 : nsp (132 + rw) = (0, 256, []) := rows_ok 132 8 (by decide) _ (by omega)
  refine lv_iconst (v := nI 0) hx hb dDA_multiplyRow_6 (by decide) ?_
  refine mp_v (cx := []) (wr := []) hP hD hS hA [] [] rfl rfl rfl (by decide) (va_runS (As := [.ref r22, .int (nI 0)]) (rest := []) F (N_AR_fillI l g _ T s pl hO hU r22 (132 + rw) 256 (nI 0) kr22 hn21 (by omega)) (va_cwS 2 hts (wg_app (wg_c kw_716 (wg_c kw_717 (wg_c kw_21 wg_n))) kw_718) rfl rfl rfl (by decide +kernel) ⟨by decide, by decide⟩) (pp_S (en_ok g) hP hD hS hA hE [] rfl rfl) rfl rfl hl.1 rfl (lv_room (Nat.le_of_ble_eq_true rfl)) dDA_multiplyRow_7 ⟨by omega, by omega⟩) (fun  u21 H locs hu21 hP hD hS => ?_)
  obtain ⟨s21, pl⟩ := u21
  obtain ⟨⟨eq21, hFc21, -⟩, hO⟩ := hu21
  have hO : okn g T s21 pl := hO
  have hP : va_P g.1 vcl ([] ++ pl) _ := hP
  have hD : va_D _ ([] ++ pl) := hD
  have hFc21 : frm (M_AR_fillI (132 + rw)) s s21 := hFc21
  replace hR := bnd_step hR eq21
  have hF := frm_tr hF hFc21 (fun k hk => by unfold M_AR_fillI at hk; unfold M_DA_multiplyRow_mask_0; omega)
  refine W.widen (k := 0) (n := 0) (by omega) (by omega) ?_
  refine lv_iconst (v := nI 0) hx hb dDA_multiplyRow_10 (by decide) ?_
  refine lv_istore (lv' := [(4, .int (nI 0)), (0, .ref h0), (1, .ref st), (2, .int (nI rw)), (3, .ref vc)]) hx hb dDA_multiplyRow_11 hl (by decide) rfl (fun ls hl => ?_)
  have lp21 : ∀ (n21 : Nat) (i21 : Nat) (s22 : Sto) (pl : va_W) (ls : Array Slot) (H : Heap) (locs : List Loc), n21 + i21 = 4 → frm (M_DA_multiplyRow_mask_0) s s22 → F_DA_multiplyRow_mask_0 rw s = F_DA_multiplyRow_mask_0_L0 rw n21 i21 s22 → lv_has ls 5 [(4, .int (nI i21)), (0, .ref h0), (1, .ref st), (2, .int (nI rw)), (3, .ref vc)] → okn g T s22 pl → va_P g.1 vcl ([] ++ pl) H → va_D A ([] ++ pl) → va_S A s0.heap H locs → W p l e ({ frames := 1, cells := 0, slots := 0, locals := 25 } : Room) s0 m args below meth c H locs 0 0 (MQ below (va_Qv (fun (u : (Sto) × va_W) => (u.1 = F_DA_multiplyRow_mask_0 rw s ∧ frm (M_DA_multiplyRow_mask_0) s u.1 ∧ True) ∧ okn g T u.1 u.2) (po g.1 vcl A (fun (u : (Sto) × va_W) => [] ++ u.2)) A) args s0 0 0 A) (F0 m 13 ls []) := by
    intro n21
    induction n21 with
    | zero =>
      intro i21 s22 pl ls H locs hm21 hF hR hl hO hP hD hS
      refine lv_iload hx hb dDA_multiplyRow_13 (lv_at hl 0 rfl) ?_
      refine lv_aload_n hx hb dDA_multiplyRow_15 rfl (lv_at hl 2 rfl) ?_
      refine nw_get (C := "LatticeKeys$DsaSet") (TT := T_DS) (N := 17) hx hb hts (wg_ft i_DS) hown hK hO k_st (kn := 9) (ci := 2) (fl := [(1, 4), (1, 4), (1, 2), (1, 3), (1, 39), (1, 32), (1, 18), (1, 131072), (1, 44), (1, 6), (1, 95232), (1, 80), (1, 78), (1, 1312), (1, 2560), (1, 2336), (1, 2420)]) rfl hP rfl 1 (by decide) (hts _ (wg_t kw_305)) (fun _ h9 => h9) (cd := (1, 4)) rfl dDA_multiplyRow_16 (fun v22 hv22 => ?_)
      obtain rfl := (show v22 = .int (nI 4) from hv22)
      refine mi_ge (tgt := 59) hx hb dDA_multiplyRow_19 (by decide) (by omega) (by omega) (fun h21 => ?_) (fun h21 => absurd h21 (by omega))
      exact mp_vret hx hb hr hlk hP hD hS (s22, pl) ⟨⟨hR.symm, hF, trivial⟩, hO⟩ [] rfl rfl rfl (by omega) (by omega) dDA_multiplyRow_59
    | succ n21 ih21 =>
      intro i21 s22 pl ls H locs hm21 hF hR hl hO hP hD hS
      refine lv_iload hx hb dDA_multiplyRow_13 (lv_at hl 0 rfl) ?_
      refine lv_aload_n hx hb dDA_multiplyRow_15 rfl (lv_at hl 2 rfl) ?_
      refine nw_get (C := "LatticeKeys$DsaSet") (TT := T_DS) (N := 17) hx hb hts (wg_ft i_DS) hown hK hO k_st (kn := 9) (ci := 2) (fl := [(1, 4), (1, 4), (1, 2), (1, 3), (1, 39), (1, 32), (1, 18), (1, 131072), (1, 44), (1, 6), (1, 95232), (1, 80), (1, 78), (1, 1312), (1, 2560), (1, 2336), (1, 2420)]) rfl hP rfl 1 (by decide) (hts _ (wg_t kw_305)) (fun _ h9 => h9) (cd := (1, 4)) rfl dDA_multiplyRow_16 (fun v23 hv23 => ?_)
      obtain rfl := (show v23 = .int (nI 4) from hv23)
      refine mi_ge (tgt := 59) hx hb dDA_multiplyRow_19 (by decide) (by omega) (by omega) (fun h22 => absurd h22 (by omega)) (fun h22 => ?_)
      refine lv_aload_n hx hb dDA_multiplyRow_22 rfl (lv_at hl 1 rfl) ?_
      refine nw_get (C := "LatticeKeys$Dsa") (TT := T_DA) (N := 17) hx hb hts (wg_ft i_DA) hown hK hO k_h0 (kn := 39) (ci := 6) (fl := [(3, 16), (3, 22), (3, 37), (3, 40), (3, 97), (3, 105), (3, 114), (3, 123), (3, 131), (3, 140), (3, 141), (3, 142), (3, 143), (3, 144), (3, 145), (3, 146), (3, 147)]) rfl hP rfl 1 (by decide) (hts _ (wg_t kw_166)) (fun _ h9 => h9) (cd := (3, 22)) rfl dDA_multiplyRow_23 (fun v24 hv24 => ?_)
      obtain ⟨r23, rfl, kr23⟩ := (show ∃ r : Nat, v24 = .ref r ∧ T r = some 22 from hv24)
      refine lv_aload_n hx hb dDA_multiplyRow_26 rfl (lv_at hl 1 rfl) ?_
      refine nw_get (C := "LatticeKeys$Dsa") (TT := T_DA) (N := 17) hx hb hts (wg_ft i_DA) hown hK hO k_h0 (kn := 39) (ci := 6) (fl := [(3, 16), (3, 22), (3, 37), (3, 40), (3, 97), (3, 105), (3, 114), (3, 123), (3, 131), (3, 140), (3, 141), (3, 142), (3, 143), (3, 144), (3, 145), (3, 146), (3, 147)]) rfl hP rfl 8 (by decide) (hts _ (wg_t kw_173)) (fun _ h9 => h9) (cd := (3, 131)) rfl dDA_multiplyRow_27 (fun v25 hv25 => ?_)
      obtain ⟨r24, rfl, kr24⟩ := (show ∃ r : Nat, v25 = .ref r ∧ T r = some 131 from hv25)
      refine lv_iload_n hx hb dDA_multiplyRow_30 rfl (lv_at hl 3 rfl) ?_
      refine nw_aald3 hx hb hK hO kr24 (k := 131) (b := 132) rfl hP (by omega) (by omega) dDA_multiplyRow_31 (fun r25 kr25 => ?_)
      have hn22 : nsp (132 + rw) = (0, 256, []) := rows_ok 132 8 (by decide) _ (by omega)
      refine lv_aload_n hx hb dDA_multiplyRow_32 rfl (lv_at hl 1 rfl) ?_
      refine nw_get (C := "LatticeKeys$Dsa") (TT := T_DA) (N := 17) hx hb hts (wg_ft i_DA) hown hK hO k_h0 (kn := 39) (ci := 6) (fl := [(3, 16), (3, 22), (3, 37), (3, 40), (3, 97), (3, 105), (3, 114), (3, 123), (3, 131), (3, 140), (3, 141), (3, 142), (3, 143), (3, 144), (3, 145), (3, 146), (3, 147)]) rfl hP rfl 3 (by decide) (hts _ (wg_t kw_168)) (fun _ h9 => h9) (cd := (3, 40)) rfl dDA_multiplyRow_33 (fun v26 hv26 => ?_)
      obtain ⟨r26, rfl, kr26⟩ := (show ∃ r : Nat, v26 = .ref r ∧ T r = some 40 from hv26)
      refine lv_aload_n hx hb dDA_multiplyRow_36 rfl (lv_at hl 2 rfl) ?_
      refine nw_get (C := "LatticeKeys$DsaSet") (TT := T_DS) (N := 17) hx hb hts (wg_ft i_DS) hown hK hO k_st (kn := 9) (ci := 2) (fl := [(1, 4), (1, 4), (1, 2), (1, 3), (1, 39), (1, 32), (1, 18), (1, 131072), (1, 44), (1, 6), (1, 95232), (1, 80), (1, 78), (1, 1312), (1, 2560), (1, 2336), (1, 2420)]) rfl hP rfl 1 (by decide) (hts _ (wg_t kw_305)) (fun _ h9 => h9) (cd := (1, 4)) rfl dDA_multiplyRow_37 (fun v27 hv27 => ?_)
      obtain rfl := (show v27 = .int (nI 4) from hv27)
      refine lv_iload_n hx hb dDA_multiplyRow_40 rfl (lv_at hl 3 rfl) ?_
      refine mi_imul hx hb dDA_multiplyRow_41 ?_
      refine lv_iload hx hb dDA_multiplyRow_42 (lv_at hl 0 rfl) ?_
      refine mi_iadd hx hb dDA_multiplyRow_44 ?_
      refine nw_aald3 hx hb hK hO kr26 (k := 40) (b := 41) rfl hP (by omega) (by omega) dDA_multiplyRow_45 (fun r27 kr27 => ?_)
      have hn23 : nsp (41 + ((4 * rw) + i21)) = (0, 256, []) := rows_ok 41 56 (by decide) _ (by omega)
      refine lv_aload_n hx hb dDA_multiplyRow_46 rfl (lv_at hl 4 rfl) ?_
      refine lv_iload hx hb dDA_multiplyRow_47 (lv_at hl 0 rfl) ?_
      refine nw_aald3 hx hb hK hO k_vc (k := 123) (b := 124) rfl hP (by omega) (by omega) dDA_multiplyRow_49 (fun r28 kr28 => ?_)
      have hn24 : nsp (124 + i21) = (0, 256, []) := rows_ok 124 7 (by decide) _ (by omega)
      refine mp_v (cx := []) (wr := []) hP hD hS hA [] [] rfl rfl rfl (by decide) (va_runV (As := [.ref r25, .ref r27, .ref r28]) (rest := []) F (N_RG_addProduct_8 l g _ T s22 pl hO hU r23 r25 r27 r28 (132 + rw) (41 + ((4 * rw) + i21)) (124 + i21) kr23 kr25 hn22 kr27 hn23 kr28 hn24) (cwV 3 hts (wg_app (wg_c kw_719 (wg_c kw_654 (wg_c kw_655 (wg_c kw_4 wg_n)))) kw_656) rfl rfl rfl (by decide +kernel) ⟨by decide, by decide⟩) (pn_W "LatticeKeys$Ring" (en_ok g) (ci := 4) (kn := 22) (fl := [(1, 8380417), (1, 8), (1, 8347681), (3, 23)]) hK hO kr23 rfl hP hD hS hA hE [] rfl rfl rfl) rfl rfl hl.1 rfl (lv_room (Nat.le_of_ble_eq_true rfl)) dDA_multiplyRow_50 ⟨by omega, by omega⟩) (fun  u22 H locs hu22 hP hD hS => ?_)
      obtain ⟨s23, pl⟩ := u22
      obtain ⟨⟨eq22, hFc22, -⟩, hO⟩ := hu22
      have hO : okn g T s23 pl := hO
      have hP : va_P g.1 vcl ([] ++ pl) _ := hP
      have hD : va_D _ ([] ++ pl) := hD
      have hFc22 : frm (M_RG_addProduct_8 (132 + rw)) s22 s23 := hFc22
      replace hR := bnd_step hR eq22
      have hF := frm_tr hF hFc22 (fun k hk => by unfold M_RG_addProduct_8 at hk; unfold M_DA_multiplyRow_mask_0; omega)
      refine W.widen (k := 0) (n := 0) (by omega) (by omega) ?_
      refine mi_iinc (k := 0) (x := i21) (d := 1) (y := i21 + 1) (lv' := [(4, .int (nI (i21 + 1))), (0, .ref h0), (1, .ref st), (2, .int (nI rw)), (3, .ref vc)]) hx hb dDA_multiplyRow_53 hl rfl (by decide) rfl (by decide) rfl (fun ls hl => ?_)
      refine lv_goto (tgt := 13) hx hb dDA_multiplyRow_56 (by decide) ?_
      exact ih21 (i21 + 1) s23 pl ls H locs (by omega) hF hR (lv_sub hl [0, 1, 2, 3, 4] rfl) hO hP hD hS
  exact lp21 4 0 s21 pl ls _ _ (by omega) hF hR (lv_sub hl [0, 1, 2, 3, 4] rfl) hO hP hD hS
def M_DA_multiplyRow_mask_1 (k : Nat) : Prop := (132 ≤ k ∧ k < 140) ∨ (0 : Nat) = 1
noncomputable def F_DA_multiplyRow_mask_1_L0 (rw : Nat) : Nat → Nat → Sto → Sto
  | 0, i21, s22 => s22
  | n21 + 1, i21, s22 => bnd (F_RG_addProduct_8 (132 + rw) (41 + ((5 * rw) + i21)) (124 + i21) s22) fun s23 => F_DA_multiplyRow_mask_1_L0 rw n21 (i21 + 1) s23
noncomputable def F_DA_multiplyRow_mask_1 (rw : Nat) (s : Sto) : Sto := bnd (F_AR_fillI (132 + rw) 256 (nI 0) s) fun s21 => F_DA_multiplyRow_mask_1_L0 rw 5 0 s21
set_option maxHeartbeats 8000000 in
set_option maxRecDepth 100000 in
theorem N_DA_multiplyRow_mask_1 (l : Launch) (g : Gd) (sz : Nat) (T : TyN) (s : Sto) (pl : va_W) (hO : okn g T s pl) (hU : inj T) (h0 st vc : Nat) (rw : Nat) (k_h0 : T h0 = some 39) (k_st : T st = some 10) (k_vc : T vc = some 123) (h1 : rw < 6)  : Met l y_DA_multiplyRow w_DA_multiplyRow ({ frames := 1, cells := 0, slots := 0, locals := 25 } : Room) (va_Pc [.ref h0, .ref st, .int (nI rw), .ref vc] (pr (en g) g.1 vcl sz ([] ++ pl))) (va_Qv (fun (u : (Sto) × va_W) => (u.1 = F_DA_multiplyRow_mask_1 rw s ∧ frm (M_DA_multiplyRow_mask_1) s u.1 ∧ True) ∧ okn g T u.1 u.2) (po g.1 vcl (va_A ([] ++ pl) sz) (fun (u : (Sto) × va_W) => [] ++ u.2)) (va_A ([] ++ pl) sz)) 0 0 (va_A ([] ++ pl) sz) := by
  refine mc_entry (cc := c_DA_multiplyRow) (maxL := 5) (ret := none) (by decide) rfl (Nat.le_of_ble_eq_true rfl) ?_
  intro p e s0 m args below meth c ls F hr hlk hnm hsz hP hD hE hA hl
  obtain ⟨hx, hb, hml, hown, hts⟩ := id F
  have hK := hE.1
  generalize va_A ([] ++ pl) sz = A at hD hE hA ⊢
  have hS : va_S A s0.heap s0.heap [] := va_S.rf
  have hl : lv_has ls 5 [(0, .ref h0), (1, .ref st), (2, .int (nI rw)), (3, .ref vc)] := hl
  have hR : F_DA_multiplyRow_mask_1 rw s = F_DA_multiplyRow_mask_1 rw s := rfl
  have hF : frm (M_DA_multiplyRow_mask_1) s s := frm_rf
  refine lv_aload_n hx hb dDA_multiplyRow_0 rfl (lv_at hl 0 rfl) ?_
  refine nw_get (C := "LatticeKeys$Dsa") (TT := T_DA) (N := 17) hx hb hts (wg_ft i_DA) hown hK hO k_h0 (kn := 39) (ci := 6) (fl := [(3, 16), (3, 22), (3, 37), (3, 40), (3, 97), (3, 105), (3, 114), (3, 123), (3, 131), (3, 140), (3, 141), (3, 142), (3, 143), (3, 144), (3, 145), (3, 146), (3, 147)]) rfl hP rfl 8 (by decide) (hts _ (wg_t kw_173)) (fun _ h9 => h9) (cd := (3, 131)) rfl dDA_multiplyRow_1 (fun v21 hv21 => ?_)
  obtain ⟨r21, rfl, kr21⟩ := (show ∃ r : Nat, v21 = .ref r ∧ T r = some 131 from hv21)
  refine lv_iload_n hx hb dDA_multiplyRow_4 rfl (lv_at hl 2 rfl) ?_
  refine nw_aald3 hx hb hK hO kr21 (k := 131) (b := 132) rfl hP (by omega) (by omega) dDA_multiplyRow_5 (fun r22 kr22 => ?_)
  have hn21 : nsp (132 + rw) = (0, 256, []) := rows_ok 132 8 (by decide) _ (by omega)
  refine lv_iconst (v := nI 0) hx hb dDA_multiplyRow_6 (by decide) ?_
  refine mp_v (cx := []) (wr := []) hP hD hS hA [] [] rfl rfl rfl (by decide) (va_runS (As := [.ref r22, .int (nI 0)]) (rest := []) F (N_AR_fillI l g _ T s pl hO hU r22 (132 + rw) 256 (nI 0) kr22 hn21 (by omega)) (va_cwS 2 hts (wg_app (wg_c kw_716 (wg_c kw_717 (wg_c kw_21 wg_n))) kw_718) rfl rfl rfl (by decide +kernel) ⟨by decide, by decide⟩) (pp_S (en_ok g) hP hD hS hA hE [] rfl rfl) rfl rfl hl.1 rfl (lv_room (Nat.le_of_ble_eq_true rfl)) dDA_multiplyRow_7 ⟨by omega, by omega⟩) (fun  u21 H locs hu21 hP hD hS => ?_)
  obtain ⟨s21, pl⟩ := u21
  obtain ⟨⟨eq21, hFc21, -⟩, hO⟩ := hu21
  have hO : okn g T s21 pl := hO
  have hP : va_P g.1 vcl ([] ++ pl) _ := hP
  have hD : va_D _ ([] ++ pl) := hD
  have hFc21 : frm (M_AR_fillI (132 + rw)) s s21 := hFc21
  replace hR := bnd_step hR eq21
  have hF := frm_tr hF hFc21 (fun k hk => by unfold M_AR_fillI at hk; unfold M_DA_multiplyRow_mask_1; omega)
  refine W.widen (k := 0) (n := 0) (by omega) (by omega) ?_
  refine lv_iconst (v := nI 0) hx hb dDA_multiplyRow_10 (by decide) ?_
  refine lv_istore (lv' := [(4, .int (nI 0)), (0, .ref h0), (1, .ref st), (2, .int (nI rw)), (3, .ref vc)]) hx hb dDA_multiplyRow_11 hl (by decide) rfl (fun ls hl => ?_)
  have lp21 : ∀ (n21 : Nat) (i21 : Nat) (s22 : Sto) (pl : va_W) (ls : Array Slot) (H : Heap) (locs : List Loc), n21 + i21 = 5 → frm (M_DA_multiplyRow_mask_1) s s22 → F_DA_multiplyRow_mask_1 rw s = F_DA_multiplyRow_mask_1_L0 rw n21 i21 s22 → lv_has ls 5 [(4, .int (nI i21)), (0, .ref h0), (1, .ref st), (2, .int (nI rw)), (3, .ref vc)] → okn g T s22 pl → va_P g.1 vcl ([] ++ pl) H → va_D A ([] ++ pl) → va_S A s0.heap H locs → W p l e ({ frames := 1, cells := 0, slots := 0, locals := 25 } : Room) s0 m args below meth c H locs 0 0 (MQ below (va_Qv (fun (u : (Sto) × va_W) => (u.1 = F_DA_multiplyRow_mask_1 rw s ∧ frm (M_DA_multiplyRow_mask_1) s u.1 ∧ True) ∧ okn g T u.1 u.2) (po g.1 vcl A (fun (u : (Sto) × va_W) => [] ++ u.2)) A) args s0 0 0 A) (F0 m 13 ls []) := by
    intro n21
    induction n21 with
    | zero =>
      intro i21 s22 pl ls H locs hm21 hF hR hl hO hP hD hS
      refine lv_iload hx hb dDA_multiplyRow_13 (lv_at hl 0 rfl) ?_
      refine lv_aload_n hx hb dDA_multiplyRow_15 rfl (lv_at hl 2 rfl) ?_
      refine nw_get (C := "LatticeKeys$DsaSet") (TT := T_DS) (N := 17) hx hb hts (wg_ft i_DS) hown hK hO k_st (kn := 10) (ci := 2) (fl := [(1, 6), (1, 5), (1, 4), (1, 4), (1, 49), (1, 48), (1, 20), (1, 524288), (1, 16), (1, 4), (1, 261888), (1, 55), (1, 196), (1, 1952), (1, 4032), (1, 3248), (1, 3309)]) rfl hP rfl 1 (by decide) (hts _ (wg_t kw_305)) (fun _ h9 => h9) (cd := (1, 5)) rfl dDA_multiplyRow_16 (fun v22 hv22 => ?_)
      obtain rfl := (show v22 = .int (nI 5) from hv22)
      refine mi_ge (tgt := 59) hx hb dDA_multiplyRow_19 (by decide) (by omega) (by omega) (fun h21 => ?_) (fun h21 => absurd h21 (by omega))
      exact mp_vret hx hb hr hlk hP hD hS (s22, pl) ⟨⟨hR.symm, hF, trivial⟩, hO⟩ [] rfl rfl rfl (by omega) (by omega) dDA_multiplyRow_59
    | succ n21 ih21 =>
      intro i21 s22 pl ls H locs hm21 hF hR hl hO hP hD hS
      refine lv_iload hx hb dDA_multiplyRow_13 (lv_at hl 0 rfl) ?_
      refine lv_aload_n hx hb dDA_multiplyRow_15 rfl (lv_at hl 2 rfl) ?_
      refine nw_get (C := "LatticeKeys$DsaSet") (TT := T_DS) (N := 17) hx hb hts (wg_ft i_DS) hown hK hO k_st (kn := 10) (ci := 2) (fl := [(1, 6), (1, 5), (1, 4), (1, 4), (1, 49), (1, 48), (1, 20), (1, 524288), (1, 16), (1, 4), (1, 261888), (1, 55), (1, 196), (1, 1952), (1, 4032), (1, 3248), (1, 3309)]) rfl hP rfl 1 (by decide) (hts _ (wg_t kw_305)) (fun _ h9 => h9) (cd := (1, 5)) rfl dDA_multiplyRow_16 (fun v23 hv23 => ?_)
      obtain rfl := (show v23 = .int (nI 5) from hv23)
      refine mi_ge (tgt := 59) hx hb dDA_multiplyRow_19 (by decide) (by omega) (by omega) (fun h22 => absurd h22 (by omega)) (fun h22 => ?_)
      refine lv_aload_n hx hb dDA_multiplyRow_22 rfl (lv_at hl 1 rfl) ?_
      refine nw_get (C := "LatticeKeys$Dsa") (TT := T_DA) (N := 17) hx hb hts (wg_ft i_DA) hown hK hO k_h0 (kn := 39) (ci := 6) (fl := [(3, 16), (3, 22), (3, 37), (3, 40), (3, 97), (3, 105), (3, 114), (3, 123), (3, 131), (3, 140), (3, 141), (3, 142), (3, 143), (3, 144), (3, 145), (3, 146), (3, 147)]) rfl hP rfl 1 (by decide) (hts _ (wg_t kw_166)) (fun _ h9 => h9) (cd := (3, 22)) rfl dDA_multiplyRow_23 (fun v24 hv24 => ?_)
      obtain ⟨r23, rfl, kr23⟩ := (show ∃ r : Nat, v24 = .ref r ∧ T r = some 22 from hv24)
      refine lv_aload_n hx hb dDA_multiplyRow_26 rfl (lv_at hl 1 rfl) ?_
      refine nw_get (C := "LatticeKeys$Dsa") (TT := T_DA) (N := 17) hx hb hts (wg_ft i_DA) hown hK hO k_h0 (kn := 39) (ci := 6) (fl := [(3, 16), (3, 22), (3, 37), (3, 40), (3, 97), (3, 105), (3, 114), (3, 123), (3, 131), (3, 140), (3, 141), (3, 142), (3, 143), (3, 144), (3, 145), (3, 146), (3, 147)]) rfl hP rfl 8 (by decide) (hts _ (wg_t kw_173)) (fun _ h9 => h9) (cd := (3, 131)) rfl dDA_multiplyRow_27 (fun v25 hv25 => ?_)
      obtain ⟨r24, rfl, kr24⟩ := (show ∃ r : Nat, v25 = .ref r ∧ T r = some 131 from hv25)
      refine lv_iload_n hx hb dDA_multiplyRow_30 rfl (lv_at hl 3 rfl) ?_
      refine nw_aald3 hx hb hK hO kr24 (k := 131) (b := 132) rfl hP (by omega) (by omega) dDA_multiplyRow_31 (fun r25 kr25 => ?_)
      have hn22 : nsp (132 + rw) = (0, 256, []) := rows_ok 132 8 (by decide) _ (by omega)
      refine lv_aload_n hx hb dDA_multiplyRow_32 rfl (lv_at hl 1 rfl) ?_
      refine nw_get (C := "LatticeKeys$Dsa") (TT := T_DA) (N := 17) hx hb hts (wg_ft i_DA) hown hK hO k_h0 (kn := 39) (ci := 6) (fl := [(3, 16), (3, 22), (3, 37), (3, 40), (3, 97), (3, 105), (3, 114), (3, 123), (3, 131), (3, 140), (3, 141), (3, 142), (3, 143), (3, 144), (3, 145), (3, 146), (3, 147)]) rfl hP rfl 3 (by decide) (hts _ (wg_t kw_168)) (fun _ h9 => h9) (cd := (3, 40)) rfl dDA_multiplyRow_33 (fun v26 hv26 => ?_)
      obtain ⟨r26, rfl, kr26⟩ := (show ∃ r : Nat, v26 = .ref r ∧ T r = some 40 from hv26)
      refine lv_aload_n hx hb dDA_multiplyRow_36 rfl (lv_at hl 2 rfl) ?_
      refine nw_get (C := "LatticeKeys$DsaSet") (TT := T_DS) (N := 17) hx hb hts (wg_ft i_DS) hown hK hO k_st (kn := 10) (ci := 2) (fl := [(1, 6), (1, 5), (1, 4), (1, 4), (1, 49), (1, 48), (1, 20), (1, 524288), (1, 16), (1, 4), (1, 261888), (1, 55), (1, 196), (1, 1952), (1, 4032), (1, 3248), (1, 3309)]) rfl hP rfl 1 (by decide) (hts _ (wg_t kw_305)) (fun _ h9 => h9) (cd := (1, 5)) rfl dDA_multiplyRow_37 (fun v27 hv27 => ?_)
      obtain rfl := (show v27 = .int (nI 5) from hv27)
      refine lv_iload_n hx hb dDA_multiplyRow_40 rfl (lv_at hl 3 rfl) ?_
      refine mi_imul hx hb dDA_multiplyRow_41 ?_
      refine lv_iload hx hb dDA_multiplyRow_42 (lv_at hl 0 rfl) ?_
      refine mi_iadd hx hb dDA_multiplyRow_44 ?_
      refine nw_aald3 hx hb hK hO kr26 (k := 40) (b := 41) rfl hP (by omega) (by omega) dDA_multiplyRow_45 (fun r27 kr27 => ?_)
      have hn23 : nsp (41 + ((5 * rw) + i21)) = (0, 256, []) := rows_ok 41 56 (by decide) _ (by omega)
      refine lv_aload_n hx hb dDA_multiplyRow_46 rfl (lv_at hl 4 rfl) ?_
      refine lv_iload hx hb dDA_multiplyRow_47 (lv_at hl 0 rfl) ?_
      refine nw_aald3 hx hb hK hO k_vc (k := 123) (b := 124) rfl hP (by omega) (by omega) dDA_multiplyRow_49 (fun r28 kr28 => ?_)
      have hn24 : nsp (124 + i21) = (0, 256, []) := rows_ok 124 7 (by decide) _ (by omega)
      refine mp_v (cx := []) (wr := []) hP hD hS hA [] [] rfl rfl rfl (by decide) (va_runV (As := [.ref r25, .ref r27, .ref r28]) (rest := []) F (N_RG_addProduct_8 l g _ T s22 pl hO hU r23 r25 r27 r28 (132 + rw) (41 + ((5 * rw) + i21)) (124 + i21) kr23 kr25 hn22 kr27 hn23 kr28 hn24) (cwV 3 hts (wg_app (wg_c kw_719 (wg_c kw_654 (wg_c kw_655 (wg_c kw_4 wg_n)))) kw_656) rfl rfl rfl (by decide +kernel) ⟨by decide, by decide⟩) (pn_W "LatticeKeys$Ring" (en_ok g) (ci := 4) (kn := 22) (fl := [(1, 8380417), (1, 8), (1, 8347681), (3, 23)]) hK hO kr23 rfl hP hD hS hA hE [] rfl rfl rfl) rfl rfl hl.1 rfl (lv_room (Nat.le_of_ble_eq_true rfl)) dDA_multiplyRow_50 ⟨by omega, by omega⟩) (fun  u22 H locs hu22 hP hD hS => ?_)
      obtain ⟨s23, pl⟩ := u22
      obtain ⟨⟨eq22, hFc22, -⟩, hO⟩ := hu22
      have hO : okn g T s23 pl := hO
      have hP : va_P g.1 vcl ([] ++ pl) _ := hP
      have hD : va_D _ ([] ++ pl) := hD
      have hFc22 : frm (M_RG_addProduct_8 (132 + rw)) s22 s23 := hFc22
      replace hR := bnd_step hR eq22
      have hF := frm_tr hF hFc22 (fun k hk => by unfold M_RG_addProduct_8 at hk; unfold M_DA_multiplyRow_mask_1; omega)
      refine W.widen (k := 0) (n := 0) (by omega) (by omega) ?_
      refine mi_iinc (k := 0) (x := i21) (d := 1) (y := i21 + 1) (lv' := [(4, .int (nI (i21 + 1))), (0, .ref h0), (1, .ref st), (2, .int (nI rw)), (3, .ref vc)]) hx hb dDA_multiplyRow_53 hl rfl (by decide) rfl (by decide) rfl (fun ls hl => ?_)
      refine lv_goto (tgt := 13) hx hb dDA_multiplyRow_56 (by decide) ?_
      exact ih21 (i21 + 1) s23 pl ls H locs (by omega) hF hR (lv_sub hl [0, 1, 2, 3, 4] rfl) hO hP hD hS
  exact lp21 5 0 s21 pl ls _ _ (by omega) hF hR (lv_sub hl [0, 1, 2, 3, 4] rfl) hO hP hD hS
def M_DA_multiplyRow_mask_2 (k : Nat) : Prop := (132 ≤ k ∧ k < 140) ∨ (0 : Nat) = 1
noncomputable def F_DA_multiplyRow_mask_2_L0 (rw : Nat) : Nat → Nat → Sto → Sto
  | 0, i21, s22 => s22
  | n21 + 1, i21, s22 => bnd (F_RG_addProduct_8 (132 + rw) (41 + ((7 * rw) + i21)) (124 + i21) s22) fun s23 => F_DA_multiplyRow_mask_2_L0 rw n21 (i21 + 1) s23
noncomputable def F_DA_multiplyRow_mask_2 (rw : Nat) (s : Sto) : Sto := bnd (F_AR_fillI (132 + rw) 256 (nI 0) s) fun s21 => F_DA_multiplyRow_mask_2_L0 rw 7 0 s21
set_option maxHeartbeats 8000000 in
set_option maxRecDepth 100000 in
theorem N_DA_multiplyRow_mask_2 (l : Launch) (g : Gd) (sz : Nat) (T : TyN) (s : Sto) (pl : va_W) (hO : okn g T s pl) (hU : inj T) (h0 st vc : Nat) (rw : Nat) (k_h0 : T h0 = some 39) (k_st : T st = some 11) (k_vc : T vc = some 123) (h1 : rw < 8)  : Met l y_DA_multiplyRow w_DA_multiplyRow ({ frames := 1, cells := 0, slots := 0, locals := 25 } : Room) (va_Pc [.ref h0, .ref st, .int (nI rw), .ref vc] (pr (en g) g.1 vcl sz ([] ++ pl))) (va_Qv (fun (u : (Sto) × va_W) => (u.1 = F_DA_multiplyRow_mask_2 rw s ∧ frm (M_DA_multiplyRow_mask_2) s u.1 ∧ True) ∧ okn g T u.1 u.2) (po g.1 vcl (va_A ([] ++ pl) sz) (fun (u : (Sto) × va_W) => [] ++ u.2)) (va_A ([] ++ pl) sz)) 0 0 (va_A ([] ++ pl) sz) := by
  refine mc_entry (cc := c_DA_multiplyRow) (maxL := 5) (ret := none) (by decide) rfl (Nat.le_of_ble_eq_true rfl) ?_
  intro p e s0 m args below meth c ls F hr hlk hnm hsz hP hD hE hA hl
  obtain ⟨hx, hb, hml, hown, hts⟩ := id F
  have hK := hE.1
  generalize va_A ([] ++ pl) sz = A at hD hE hA ⊢
  have hS : va_S A s0.heap s0.heap [] := va_S.rf
  have hl : lv_has ls 5 [(0, .ref h0), (1, .ref st), (2, .int (nI rw)), (3, .ref vc)] := hl
  have hR : F_DA_multiplyRow_mask_2 rw s = F_DA_multiplyRow_mask_2 rw s := rfl
  have hF : frm (M_DA_multiplyRow_mask_2) s s := frm_rf
  refine lv_aload_n hx hb dDA_multiplyRow_0 rfl (lv_at hl 0 rfl) ?_
  refine nw_get (C := "LatticeKeys$Dsa") (TT := T_DA) (N := 17) hx hb hts (wg_ft i_DA) hown hK hO k_h0 (kn := 39) (ci := 6) (fl := [(3, 16), (3, 22), (3, 37), (3, 40), (3, 97), (3, 105), (3, 114), (3, 123), (3, 131), (3, 140), (3, 141), (3, 142), (3, 143), (3, 144), (3, 145), (3, 146), (3, 147)]) rfl hP rfl 8 (by decide) (hts _ (wg_t kw_173)) (fun _ h9 => h9) (cd := (3, 131)) rfl dDA_multiplyRow_1 (fun v21 hv21 => ?_)
  obtain ⟨r21, rfl, kr21⟩ := (show ∃ r : Nat, v21 = .ref r ∧ T r = some 131 from hv21)
  refine lv_iload_n hx hb dDA_multiplyRow_4 rfl (lv_at hl 2 rfl) ?_
  refine nw_aald3 hx hb hK hO kr21 (k := 131) (b := 132) rfl hP (by omega) (by omega) dDA_multiplyRow_5 (fun r22 kr22 => ?_)
  have hn21 : nsp (132 + rw) = (0, 256, []) := rows_ok 132 8 (by decide) _ (by omega)
  refine lv_iconst (v := nI 0) hx hb dDA_multiplyRow_6 (by decide) ?_
  refine mp_v (cx := []) (wr := []) hP hD hS hA [] [] rfl rfl rfl (by decide) (va_runS (As := [.ref r22, .int (nI 0)]) (rest := []) F (N_AR_fillI l g _ T s pl hO hU r22 (132 + rw) 256 (nI 0) kr22 hn21 (by omega)) (va_cwS 2 hts (wg_app (wg_c kw_716 (wg_c kw_717 (wg_c kw_21 wg_n))) kw_718) rfl rfl rfl (by decide +kernel) ⟨by decide, by decide⟩) (pp_S (en_ok g) hP hD hS hA hE [] rfl rfl) rfl rfl hl.1 rfl (lv_room (Nat.le_of_ble_eq_true rfl)) dDA_multiplyRow_7 ⟨by omega, by omega⟩) (fun  u21 H locs hu21 hP hD hS => ?_)
  obtain ⟨s21, pl⟩ := u21
  obtain ⟨⟨eq21, hFc21, -⟩, hO⟩ := hu21
  have hO : okn g T s21 pl := hO
  have hP : va_P g.1 vcl ([] ++ pl) _ := hP
  have hD : va_D _ ([] ++ pl) := hD
  have hFc21 : frm (M_AR_fillI (132 + rw)) s s21 := hFc21
  replace hR := bnd_step hR eq21
  have hF := frm_tr hF hFc21 (fun k hk => by unfold M_AR_fillI at hk; unfold M_DA_multiplyRow_mask_2; omega)
  refine W.widen (k := 0) (n := 0) (by omega) (by omega) ?_
  refine lv_iconst (v := nI 0) hx hb dDA_multiplyRow_10 (by decide) ?_
  refine lv_istore (lv' := [(4, .int (nI 0)), (0, .ref h0), (1, .ref st), (2, .int (nI rw)), (3, .ref vc)]) hx hb dDA_multiplyRow_11 hl (by decide) rfl (fun ls hl => ?_)
  have lp21 : ∀ (n21 : Nat) (i21 : Nat) (s22 : Sto) (pl : va_W) (ls : Array Slot) (H : Heap) (locs : List Loc), n21 + i21 = 7 → frm (M_DA_multiplyRow_mask_2) s s22 → F_DA_multiplyRow_mask_2 rw s = F_DA_multiplyRow_mask_2_L0 rw n21 i21 s22 → lv_has ls 5 [(4, .int (nI i21)), (0, .ref h0), (1, .ref st), (2, .int (nI rw)), (3, .ref vc)] → okn g T s22 pl → va_P g.1 vcl ([] ++ pl) H → va_D A ([] ++ pl) → va_S A s0.heap H locs → W p l e ({ frames := 1, cells := 0, slots := 0, locals := 25 } : Room) s0 m args below meth c H locs 0 0 (MQ below (va_Qv (fun (u : (Sto) × va_W) => (u.1 = F_DA_multiplyRow_mask_2 rw s ∧ frm (M_DA_multiplyRow_mask_2) s u.1 ∧ True) ∧ okn g T u.1 u.2) (po g.1 vcl A (fun (u : (Sto) × va_W) => [] ++ u.2)) A) args s0 0 0 A) (F0 m 13 ls []) := by
    intro n21
    induction n21 with
    | zero =>
      intro i21 s22 pl ls H locs hm21 hF hR hl hO hP hD hS
      refine lv_iload hx hb dDA_multiplyRow_13 (lv_at hl 0 rfl) ?_
      refine lv_aload_n hx hb dDA_multiplyRow_15 rfl (lv_at hl 2 rfl) ?_
      refine nw_get (C := "LatticeKeys$DsaSet") (TT := T_DS) (N := 17) hx hb hts (wg_ft i_DS) hown hK hO k_st (kn := 11) (ci := 2) (fl := [(1, 8), (1, 7), (1, 2), (1, 3), (1, 60), (1, 64), (1, 20), (1, 524288), (1, 16), (1, 4), (1, 261888), (1, 75), (1, 120), (1, 2592), (1, 4896), (1, 4544), (1, 4627)]) rfl hP rfl 1 (by decide) (hts _ (wg_t kw_305)) (fun _ h9 => h9) (cd := (1, 7)) rfl dDA_multiplyRow_16 (fun v22 hv22 => ?_)
      obtain rfl := (show v22 = .int (nI 7) from hv22)
      refine mi_ge (tgt := 59) hx hb dDA_multiplyRow_19 (by decide) (by omega) (by omega) (fun h21 => ?_) (fun h21 => absurd h21 (by omega))
      exact mp_vret hx hb hr hlk hP hD hS (s22, pl) ⟨⟨hR.symm, hF, trivial⟩, hO⟩ [] rfl rfl rfl (by omega) (by omega) dDA_multiplyRow_59
    | succ n21 ih21 =>
      intro i21 s22 pl ls H locs hm21 hF hR hl hO hP hD hS
      refine lv_iload hx hb dDA_multiplyRow_13 (lv_at hl 0 rfl) ?_
      refine lv_aload_n hx hb dDA_multiplyRow_15 rfl (lv_at hl 2 rfl) ?_
      refine nw_get (C := "LatticeKeys$DsaSet") (TT := T_DS) (N := 17) hx hb hts (wg_ft i_DS) hown hK hO k_st (kn := 11) (ci := 2) (fl := [(1, 8), (1, 7), (1, 2), (1, 3), (1, 60), (1, 64), (1, 20), (1, 524288), (1, 16), (1, 4), (1, 261888), (1, 75), (1, 120), (1, 2592), (1, 4896), (1, 4544), (1, 4627)]) rfl hP rfl 1 (by decide) (hts _ (wg_t kw_305)) (fun _ h9 => h9) (cd := (1, 7)) rfl dDA_multiplyRow_16 (fun v23 hv23 => ?_)
      obtain rfl := (show v23 = .int (nI 7) from hv23)
      refine mi_ge (tgt := 59) hx hb dDA_multiplyRow_19 (by decide) (by omega) (by omega) (fun h22 => absurd h22 (by omega)) (fun h22 => ?_)
      refine lv_aload_n hx hb dDA_multiplyRow_22 rfl (lv_at hl 1 rfl) ?_
      refine nw_get (C := "LatticeKeys$Dsa") (TT := T_DA) (N := 17) hx hb hts (wg_ft i_DA) hown hK hO k_h0 (kn := 39) (ci := 6) (fl := [(3, 16), (3, 22), (3, 37), (3, 40), (3, 97), (3, 105), (3, 114), (3, 123), (3, 131), (3, 140), (3, 141), (3, 142), (3, 143), (3, 144), (3, 145), (3, 146), (3, 147)]) rfl hP rfl 1 (by decide) (hts _ (wg_t kw_166)) (fun _ h9 => h9) (cd := (3, 22)) rfl dDA_multiplyRow_23 (fun v24 hv24 => ?_)
      obtain ⟨r23, rfl, kr23⟩ := (show ∃ r : Nat, v24 = .ref r ∧ T r = some 22 from hv24)
      refine lv_aload_n hx hb dDA_multiplyRow_26 rfl (lv_at hl 1 rfl) ?_
      refine nw_get (C := "LatticeKeys$Dsa") (TT := T_DA) (N := 17) hx hb hts (wg_ft i_DA) hown hK hO k_h0 (kn := 39) (ci := 6) (fl := [(3, 16), (3, 22), (3, 37), (3, 40), (3, 97), (3, 105), (3, 114), (3, 123), (3, 131), (3, 140), (3, 141), (3, 142), (3, 143), (3, 144), (3, 145), (3, 146), (3, 147)]) rfl hP rfl 8 (by decide) (hts _ (wg_t kw_173)) (fun _ h9 => h9) (cd := (3, 131)) rfl dDA_multiplyRow_27 (fun v25 hv25 => ?_)
      obtain ⟨r24, rfl, kr24⟩ := (show ∃ r : Nat, v25 = .ref r ∧ T r = some 131 from hv25)
      refine lv_iload_n hx hb dDA_multiplyRow_30 rfl (lv_at hl 3 rfl) ?_
      refine nw_aald3 hx hb hK hO kr24 (k := 131) (b := 132) rfl hP (by omega) (by omega) dDA_multiplyRow_31 (fun r25 kr25 => ?_)
      have hn22 : nsp (132 + rw) = (0, 256, []) := rows_ok 132 8 (by decide) _ (by omega)
      refine lv_aload_n hx hb dDA_multiplyRow_32 rfl (lv_at hl 1 rfl) ?_
      refine nw_get (C := "LatticeKeys$Dsa") (TT := T_DA) (N := 17) hx hb hts (wg_ft i_DA) hown hK hO k_h0 (kn := 39) (ci := 6) (fl := [(3, 16), (3, 22), (3, 37), (3, 40), (3, 97), (3, 105), (3, 114), (3, 123), (3, 131), (3, 140), (3, 141), (3, 142), (3, 143), (3, 144), (3, 145), (3, 146), (3, 147)]) rfl hP rfl 3 (by decide) (hts _ (wg_t kw_168)) (fun _ h9 => h9) (cd := (3, 40)) rfl dDA_multiplyRow_33 (fun v26 hv26 => ?_)
      obtain ⟨r26, rfl, kr26⟩ := (show ∃ r : Nat, v26 = .ref r ∧ T r = some 40 from hv26)
      refine lv_aload_n hx hb dDA_multiplyRow_36 rfl (lv_at hl 2 rfl) ?_
      refine nw_get (C := "LatticeKeys$DsaSet") (TT := T_DS) (N := 17) hx hb hts (wg_ft i_DS) hown hK hO k_st (kn := 11) (ci := 2) (fl := [(1, 8), (1, 7), (1, 2), (1, 3), (1, 60), (1, 64), (1, 20), (1, 524288), (1, 16), (1, 4), (1, 261888), (1, 75), (1, 120), (1, 2592), (1, 4896), (1, 4544), (1, 4627)]) rfl hP rfl 1 (by decide) (hts _ (wg_t kw_305)) (fun _ h9 => h9) (cd := (1, 7)) rfl dDA_multiplyRow_37 (fun v27 hv27 => ?_)
      obtain rfl := (show v27 = .int (nI 7) from hv27)
      refine lv_iload_n hx hb dDA_multiplyRow_40 rfl (lv_at hl 3 rfl) ?_
      refine mi_imul hx hb dDA_multiplyRow_41 ?_
      refine lv_iload hx hb dDA_multiplyRow_42 (lv_at hl 0 rfl) ?_
      refine mi_iadd hx hb dDA_multiplyRow_44 ?_
      refine nw_aald3 hx hb hK hO kr26 (k := 40) (b := 41) rfl hP (by omega) (by omega) dDA_multiplyRow_45 (fun r27 kr27 => ?_)
      have hn23 : nsp (41 + ((7 * rw) + i21)) = (0, 256, []) := rows_ok 41 56 (by decide) _ (by omega)
      refine lv_aload_n hx hb dDA_multiplyRow_46 rfl (lv_at hl 4 rfl) ?_
      refine lv_iload hx hb dDA_multiplyRow_47 (lv_at hl 0 rfl) ?_
      refine nw_aald3 hx hb hK hO k_vc (k := 123) (b := 124) rfl hP (by omega) (by omega) dDA_multiplyRow_49 (fun r28 kr28 => ?_)
      have hn24 : nsp (124 + i21) = (0, 256, []) := rows_ok 124 7 (by decide) _ (by omega)
      refine mp_v (cx := []) (wr := []) hP hD hS hA [] [] rfl rfl rfl (by decide) (va_runV (As := [.ref r25, .ref r27, .ref r28]) (rest := []) F (N_RG_addProduct_8 l g _ T s22 pl hO hU r23 r25 r27 r28 (132 + rw) (41 + ((7 * rw) + i21)) (124 + i21) kr23 kr25 hn22 kr27 hn23 kr28 hn24) (cwV 3 hts (wg_app (wg_c kw_719 (wg_c kw_654 (wg_c kw_655 (wg_c kw_4 wg_n)))) kw_656) rfl rfl rfl (by decide +kernel) ⟨by decide, by decide⟩) (pn_W "LatticeKeys$Ring" (en_ok g) (ci := 4) (kn := 22) (fl := [(1, 8380417), (1, 8), (1, 8347681), (3, 23)]) hK hO kr23 rfl hP hD hS hA hE [] rfl rfl rfl) rfl rfl hl.1 rfl (lv_room (Nat.le_of_ble_eq_true rfl)) dDA_multiplyRow_50 ⟨by omega, by omega⟩) (fun  u22 H locs hu22 hP hD hS => ?_)
      obtain ⟨s23, pl⟩ := u22
      obtain ⟨⟨eq22, hFc22, -⟩, hO⟩ := hu22
      have hO : okn g T s23 pl := hO
      have hP : va_P g.1 vcl ([] ++ pl) _ := hP
      have hD : va_D _ ([] ++ pl) := hD
      have hFc22 : frm (M_RG_addProduct_8 (132 + rw)) s22 s23 := hFc22
      replace hR := bnd_step hR eq22
      have hF := frm_tr hF hFc22 (fun k hk => by unfold M_RG_addProduct_8 at hk; unfold M_DA_multiplyRow_mask_2; omega)
      refine W.widen (k := 0) (n := 0) (by omega) (by omega) ?_
      refine mi_iinc (k := 0) (x := i21) (d := 1) (y := i21 + 1) (lv' := [(4, .int (nI (i21 + 1))), (0, .ref h0), (1, .ref st), (2, .int (nI rw)), (3, .ref vc)]) hx hb dDA_multiplyRow_53 hl rfl (by decide) rfl (by decide) rfl (fun ls hl => ?_)
      refine lv_goto (tgt := 13) hx hb dDA_multiplyRow_56 (by decide) ?_
      exact ih21 (i21 + 1) s23 pl ls H locs (by omega) hF hR (lv_sub hl [0, 1, 2, 3, 4] rfl) hO hP hD hS
  exact lp21 7 0 s21 pl ls _ _ (by omega) hF hR (lv_sub hl [0, 1, 2, 3, 4] rfl) hO hP hD hS
def M_DA_readSecret_0 (k : Nat) : Prop := (106 ≤ k ∧ k < 114) ∨ (115 ≤ k ∧ k < 123) ∨ (41 ≤ k ∧ k < 97) ∨ (98 ≤ k ∧ k < 105) ∨ k = 18 ∨ (0 : Nat) = 1
noncomputable def F_DA_readSecret_0_L2 (psk : Nat) : Nat → Nat → Nat → Sto → Sto
  | 0, i23, pz23, s24 => s24
  | n23 + 1, i23, pz23, s24 => bnd (F_DA_readFlipped (115 + i23) 13 (nI 4096) psk 2560 pz23 s24) fun s25 => bnd (F_RG_transform_8 (115 + i23) s25) fun s26 => F_DA_readSecret_0_L2 psk n23 (i23 + 1) (pz23 + 416) s26
noncomputable def F_DA_readSecret_0_L1 (psk : Nat) : Nat → Nat → Nat → Sto → Sto
  | 0, i22, pz22, s23 => F_DA_readSecret_0_L2 psk 4 0 pz22 s23
  | n22 + 1, i22, pz22, s23 => bnd (F_DA_readFlipped (106 + i22) 3 (nI 2) psk 2560 pz22 s23) fun s27 => bnd (F_RG_transform_8 (106 + i22) s27) fun s28 => F_DA_readSecret_0_L1 psk n22 (i22 + 1) (pz22 + 96) s28
noncomputable def F_DA_readSecret_0_L0 (psk : Nat) : Nat → Nat → Nat → Sto → Sto
  | 0, i21, pz21, s22 => F_DA_readSecret_0_L1 psk 4 0 pz21 s22
  | n21 + 1, i21, pz21, s22 => bnd (F_DA_readFlipped (98 + i21) 3 (nI 2) psk 2560 pz21 s22) fun s29 => bnd (F_RG_transform_8 (98 + i21) s29) fun s30 => F_DA_readSecret_0_L0 psk n21 (i21 + 1) (pz21 + 96) s30
noncomputable def F_DA_readSecret_0 (psk : Nat) (s : Sto) : Sto := bnd (F_SA_expandMatrix_0 psk 2560 s) fun s21 => F_DA_readSecret_0_L0 psk 4 0 128 s21
set_option maxHeartbeats 8000000 in
set_option maxRecDepth 100000 in
theorem N_DA_readSecret_0 (l : Launch) (g : Gd) (sz : Nat) (T : TyN) (s : Sto) (pl : va_W) (hO : okn g T s pl) (hU : inj T) (h0 st sk : Nat) (psk : Nat) (k_h0 : T h0 = some 39) (k_st : T st = some 9) (k_sk : T sk = some psk) (n_sk : nsp psk = (1, 2560, []))  : Met l y_DA_readSecret w_DA_readSecret ({ frames := 5, cells := 0, slots := 0, locals := 152 } : Room) (va_Pc [.ref h0, .ref st, .ref sk] (pr (en g) g.1 vcl sz ([] ++ pl))) (va_Qv (fun (u : (Sto) × va_W) => (u.1 = F_DA_readSecret_0 psk s ∧ frm (M_DA_readSecret_0) s u.1 ∧ True) ∧ okn g T u.1 u.2) (po g.1 vcl (va_A ([] ++ pl) sz) (fun (u : (Sto) × va_W) => [] ++ u.2)) (va_A ([] ++ pl) sz)) 0 0 (va_A ([] ++ pl) sz) := by
  refine mc_entry (cc := c_DA_readSecret) (maxL := 5) (ret := none) (by decide) rfl (Nat.le_of_ble_eq_true rfl) ?_
  intro p e s0 m args below meth c ls F hr hlk hnm hsz hP hD hE hA hl
  obtain ⟨hx, hb, hml, hown, hts⟩ := id F
  have hK := hE.1
  generalize va_A ([] ++ pl) sz = A at hD hE hA ⊢
  have hS : va_S A s0.heap s0.heap [] := va_S.rf
  have hl : lv_has ls 5 [(0, .ref h0), (1, .ref st), (2, .ref sk)] := hl
  have hR : F_DA_readSecret_0 psk s = F_DA_readSecret_0 psk s := rfl
  have hF : frm (M_DA_readSecret_0) s s := frm_rf
  refine lv_aload_n hx hb dDA_readSecret_0 rfl (lv_at hl 0 rfl) ?_
  refine nw_get (C := "LatticeKeys$Dsa") (TT := T_DA) (N := 17) hx hb hts (wg_ft i_DA) hown hK hO k_h0 (kn := 39) (ci := 6) (fl := [(3, 16), (3, 22), (3, 37), (3, 40), (3, 97), (3, 105), (3, 114), (3, 123), (3, 131), (3, 140), (3, 141), (3, 142), (3, 143), (3, 144), (3, 145), (3, 146), (3, 147)]) rfl hP rfl 2 (by decide) (hts _ (wg_t kw_167)) (fun _ h9 => h9) (cd := (3, 37)) rfl dDA_readSecret_1 (fun v21 hv21 => ?_)
  obtain ⟨r21, rfl, kr21⟩ := (show ∃ r : Nat, v21 = .ref r ∧ T r = some 37 from hv21)
  refine lv_aload_n hx hb dDA_readSecret_4 rfl (lv_at hl 1 rfl) ?_
  refine lv_aload_n hx hb dDA_readSecret_5 rfl (lv_at hl 2 rfl) ?_
  refine lv_aload_n hx hb dDA_readSecret_6 rfl (lv_at hl 0 rfl) ?_
  refine nw_get (C := "LatticeKeys$Dsa") (TT := T_DA) (N := 17) hx hb hts (wg_ft i_DA) hown hK hO k_h0 (kn := 39) (ci := 6) (fl := [(3, 16), (3, 22), (3, 37), (3, 40), (3, 97), (3, 105), (3, 114), (3, 123), (3, 131), (3, 140), (3, 141), (3, 142), (3, 143), (3, 144), (3, 145), (3, 146), (3, 147)]) rfl hP rfl 3 (by decide) (hts _ (wg_t kw_168)) (fun _ h9 => h9) (cd := (3, 40)) rfl dDA_readSecret_7 (fun v22 hv22 => ?_)
  obtain ⟨r22, rfl, kr22⟩ := (show ∃ r : Nat, v22 = .ref r ∧ T r = some 40 from hv22)
  refine mp_v (cx := []) (wr := []) hP hD hS hA [] [] rfl rfl rfl (by decide) (va_runV (As := [.ref st, .ref sk, .ref r22]) (rest := []) F (N_SA_expandMatrix_0 l g _ T s pl hO hU r21 st sk r22 psk 2560 kr21 k_st k_sk n_sk kr22 (by omega) (by omega)) (cwV 3 hts (wg_app (wg_c kw_703 (wg_c kw_704 (wg_c kw_705 (wg_c kw_6 wg_n)))) kw_706) rfl rfl rfl (by decide +kernel) ⟨by decide, by decide⟩) (pn_W "LatticeKeys$DsaSampler" (en_ok g) (ci := 7) (kn := 37) (fl := [(3, 18), (3, 38)]) hK hO kr21 rfl hP hD hS hA hE [] rfl rfl rfl) rfl rfl hl.1 rfl (lv_room (Nat.le_of_ble_eq_true rfl)) dDA_readSecret_10 ⟨by omega, by omega⟩) (fun  u21 H locs hu21 hP hD hS => ?_)
  obtain ⟨s21, pl⟩ := u21
  obtain ⟨⟨eq21, hFc21, -⟩, hO⟩ := hu21
  have hO : okn g T s21 pl := hO
  have hP : va_P g.1 vcl ([] ++ pl) _ := hP
  have hD : va_D _ ([] ++ pl) := hD
  have hFc21 : frm (M_SA_expandMatrix_0) s s21 := hFc21
  replace hR := bnd_step hR eq21
  have hF := frm_tr hF hFc21 (fun k hk => by unfold M_SA_expandMatrix_0 at hk; unfold M_DA_readSecret_0; omega)
  refine W.widen (k := 0) (n := 0) (by omega) (by omega) ?_
  refine lv_sipush (v := nI 128) hx hb dDA_readSecret_13 (by decide) ?_
  refine lv_istore_n (lv' := [(3, .int (nI 128)), (0, .ref h0), (1, .ref st), (2, .ref sk)]) hx hb dDA_readSecret_16 rfl hl (by decide) rfl (fun ls hl => ?_)
  refine lv_iconst (v := nI 0) hx hb dDA_readSecret_17 (by decide) ?_
  refine lv_istore (lv' := [(4, .int (nI 0)), (3, .int (nI 128)), (0, .ref h0), (1, .ref st), (2, .ref sk)]) hx hb dDA_readSecret_18 hl (by decide) rfl (fun ls hl => ?_)
  have lp21 : ∀ (n21 : Nat) (i21 : Nat) (pz21 : Nat) (s22 : Sto) (pl : va_W) (ls : Array Slot) (H : Heap) (locs : List Loc), n21 + i21 = 4 → (pz21 = 128 + 96 * i21) → frm (M_DA_readSecret_0) s s22 → F_DA_readSecret_0 psk s = F_DA_readSecret_0_L0 psk n21 i21 pz21 s22 → lv_has ls 5 [(4, .int (nI i21)), (3, .int (nI pz21)), (0, .ref h0), (1, .ref st), (2, .ref sk)] → okn g T s22 pl → va_P g.1 vcl ([] ++ pl) H → va_D A ([] ++ pl) → va_S A s0.heap H locs → W p l e ({ frames := 5, cells := 0, slots := 0, locals := 152 } : Room) s0 m args below meth c H locs 0 0 (MQ below (va_Qv (fun (u : (Sto) × va_W) => (u.1 = F_DA_readSecret_0 psk s ∧ frm (M_DA_readSecret_0) s u.1 ∧ True) ∧ okn g T u.1 u.2) (po g.1 vcl A (fun (u : (Sto) × va_W) => [] ++ u.2)) A) args s0 0 0 A) (F0 m 20 ls []) := by
    intro n21
    induction n21 with
    | zero =>
      intro i21 pz21 s22 pl ls H locs hm21 hi21 hF hR hl hO hP hD hS
      refine lv_iload hx hb dDA_readSecret_20 (lv_at hl 0 rfl) ?_
      refine lv_aload_n hx hb dDA_readSecret_22 rfl (lv_at hl 3 rfl) ?_
      refine nw_get (C := "LatticeKeys$DsaSet") (TT := T_DS) (N := 17) hx hb hts (wg_ft i_DS) hown hK hO k_st (kn := 9) (ci := 2) (fl := [(1, 4), (1, 4), (1, 2), (1, 3), (1, 39), (1, 32), (1, 18), (1, 131072), (1, 44), (1, 6), (1, 95232), (1, 80), (1, 78), (1, 1312), (1, 2560), (1, 2336), (1, 2420)]) rfl hP rfl 1 (by decide) (hts _ (wg_t kw_305)) (fun _ h9 => h9) (cd := (1, 4)) rfl dDA_readSecret_23 (fun v23 hv23 => ?_)
      obtain rfl := (show v23 = .int (nI 4) from hv23)
      refine mi_ge (tgt := 80) hx hb dDA_readSecret_26 (by decide) (by omega) (by omega) (fun h21 => ?_) (fun h21 => absurd h21 (by omega))
      refine lv_iconst (v := nI 0) hx hb dDA_readSecret_80 (by decide) ?_
      refine lv_istore (lv' := [(4, .int (nI 0)), (3, .int (nI pz21)), (0, .ref h0), (1, .ref st), (2, .ref sk)]) hx hb dDA_readSecret_81 hl (by decide) rfl (fun ls hl => ?_)
      have lp22 : ∀ (n22 : Nat) (i22 : Nat) (pz22 : Nat) (s23 : Sto) (pl : va_W) (ls : Array Slot) (H : Heap) (locs : List Loc), n22 + i22 = 4 → (pz22 = 512 + 96 * i22) → frm (M_DA_readSecret_0) s s23 → F_DA_readSecret_0 psk s = F_DA_readSecret_0_L1 psk n22 i22 pz22 s23 → lv_has ls 5 [(4, .int (nI i22)), (3, .int (nI pz22)), (0, .ref h0), (1, .ref st), (2, .ref sk)] → okn g T s23 pl → va_P g.1 vcl ([] ++ pl) H → va_D A ([] ++ pl) → va_S A s0.heap H locs → W p l e ({ frames := 5, cells := 0, slots := 0, locals := 152 } : Room) s0 m args below meth c H locs 0 0 (MQ below (va_Qv (fun (u : (Sto) × va_W) => (u.1 = F_DA_readSecret_0 psk s ∧ frm (M_DA_readSecret_0) s u.1 ∧ True) ∧ okn g T u.1 u.2) (po g.1 vcl A (fun (u : (Sto) × va_W) => [] ++ u.2)) A) args s0 0 0 A) (F0 m 83 ls []) := by
        intro n22
        induction n22 with
        | zero =>
          intro i22 pz22 s23 pl ls H locs hm22 hi22 hF hR hl hO hP hD hS
          refine lv_iload hx hb dDA_readSecret_83 (lv_at hl 0 rfl) ?_
          refine lv_aload_n hx hb dDA_readSecret_85 rfl (lv_at hl 3 rfl) ?_
          refine nw_get (C := "LatticeKeys$DsaSet") (TT := T_DS) (N := 17) hx hb hts (wg_ft i_DS) hown hK hO k_st (kn := 9) (ci := 2) (fl := [(1, 4), (1, 4), (1, 2), (1, 3), (1, 39), (1, 32), (1, 18), (1, 131072), (1, 44), (1, 6), (1, 95232), (1, 80), (1, 78), (1, 1312), (1, 2560), (1, 2336), (1, 2420)]) rfl hP rfl 0 (by decide) (hts _ (wg_t kw_302)) (fun _ h9 => h9) (cd := (1, 4)) rfl dDA_readSecret_86 (fun v24 hv24 => ?_)
          obtain rfl := (show v24 = .int (nI 4) from hv24)
          refine mi_ge (tgt := 143) hx hb dDA_readSecret_89 (by decide) (by omega) (by omega) (fun h22 => ?_) (fun h22 => absurd h22 (by omega))
          refine lv_iconst (v := nI 0) hx hb dDA_readSecret_143 (by decide) ?_
          refine lv_istore (lv' := [(4, .int (nI 0)), (3, .int (nI pz22)), (0, .ref h0), (1, .ref st), (2, .ref sk)]) hx hb dDA_readSecret_144 hl (by decide) rfl (fun ls hl => ?_)
          have lp23 : ∀ (n23 : Nat) (i23 : Nat) (pz23 : Nat) (s24 : Sto) (pl : va_W) (ls : Array Slot) (H : Heap) (locs : List Loc), n23 + i23 = 4 → (pz23 = 896 + 416 * i23) → frm (M_DA_readSecret_0) s s24 → F_DA_readSecret_0 psk s = F_DA_readSecret_0_L2 psk n23 i23 pz23 s24 → lv_has ls 5 [(4, .int (nI i23)), (3, .int (nI pz23)), (0, .ref h0), (1, .ref st), (2, .ref sk)] → okn g T s24 pl → va_P g.1 vcl ([] ++ pl) H → va_D A ([] ++ pl) → va_S A s0.heap H locs → W p l e ({ frames := 5, cells := 0, slots := 0, locals := 152 } : Room) s0 m args below meth c H locs 0 0 (MQ below (va_Qv (fun (u : (Sto) × va_W) => (u.1 = F_DA_readSecret_0 psk s ∧ frm (M_DA_readSecret_0) s u.1 ∧ True) ∧ okn g T u.1 u.2) (po g.1 vcl A (fun (u : (Sto) × va_W) => [] ++ u.2)) A) args s0 0 0 A) (F0 m 146 ls []) := by
            intro n23
            induction n23 with
            | zero =>
              intro i23 pz23 s24 pl ls H locs hm23 hi23 hF hR hl hO hP hD hS
              refine lv_iload hx hb dDA_readSecret_146 (lv_at hl 0 rfl) ?_
              refine lv_aload_n hx hb dDA_readSecret_148 rfl (lv_at hl 3 rfl) ?_
              refine nw_get (C := "LatticeKeys$DsaSet") (TT := T_DS) (N := 17) hx hb hts (wg_ft i_DS) hown hK hO k_st (kn := 9) (ci := 2) (fl := [(1, 4), (1, 4), (1, 2), (1, 3), (1, 39), (1, 32), (1, 18), (1, 131072), (1, 44), (1, 6), (1, 95232), (1, 80), (1, 78), (1, 1312), (1, 2560), (1, 2336), (1, 2420)]) rfl hP rfl 0 (by decide) (hts _ (wg_t kw_302)) (fun _ h9 => h9) (cd := (1, 4)) rfl dDA_readSecret_149 (fun v25 hv25 => ?_)
              obtain rfl := (show v25 = .int (nI 4) from hv25)
              refine mi_ge (tgt := 199) hx hb dDA_readSecret_152 (by decide) (by omega) (by omega) (fun h23 => ?_) (fun h23 => absurd h23 (by omega))
              exact mp_vret hx hb hr hlk hP hD hS (s24, pl) ⟨⟨hR.symm, hF, trivial⟩, hO⟩ [] rfl rfl rfl (by omega) (by omega) dDA_readSecret_199
            | succ n23 ih23 =>
              intro i23 pz23 s24 pl ls H locs hm23 hi23 hF hR hl hO hP hD hS
              refine lv_iload hx hb dDA_readSecret_146 (lv_at hl 0 rfl) ?_
              refine lv_aload_n hx hb dDA_readSecret_148 rfl (lv_at hl 3 rfl) ?_
              refine nw_get (C := "LatticeKeys$DsaSet") (TT := T_DS) (N := 17) hx hb hts (wg_ft i_DS) hown hK hO k_st (kn := 9) (ci := 2) (fl := [(1, 4), (1, 4), (1, 2), (1, 3), (1, 39), (1, 32), (1, 18), (1, 131072), (1, 44), (1, 6), (1, 95232), (1, 80), (1, 78), (1, 1312), (1, 2560), (1, 2336), (1, 2420)]) rfl hP rfl 0 (by decide) (hts _ (wg_t kw_302)) (fun _ h9 => h9) (cd := (1, 4)) rfl dDA_readSecret_149 (fun v26 hv26 => ?_)
              obtain rfl := (show v26 = .int (nI 4) from hv26)
              refine mi_ge (tgt := 199) hx hb dDA_readSecret_152 (by decide) (by omega) (by omega) (fun h24 => absurd h24 (by omega)) (fun h24 => ?_)
              refine lv_aload_n hx hb dDA_readSecret_155 rfl (lv_at hl 2 rfl) ?_
              refine lv_aload_n hx hb dDA_readSecret_156 rfl (lv_at hl 2 rfl) ?_
              refine nw_get (C := "LatticeKeys$Dsa") (TT := T_DA) (N := 17) hx hb hts (wg_ft i_DA) hown hK hO k_h0 (kn := 39) (ci := 6) (fl := [(3, 16), (3, 22), (3, 37), (3, 40), (3, 97), (3, 105), (3, 114), (3, 123), (3, 131), (3, 140), (3, 141), (3, 142), (3, 143), (3, 144), (3, 145), (3, 146), (3, 147)]) rfl hP rfl 6 (by decide) (hts _ (wg_t kw_171)) (fun _ h9 => h9) (cd := (3, 114)) rfl dDA_readSecret_157 (fun v27 hv27 => ?_)
              obtain ⟨r23, rfl, kr23⟩ := (show ∃ r : Nat, v27 = .ref r ∧ T r = some 114 from hv27)
              refine lv_iload hx hb dDA_readSecret_160 (lv_at hl 0 rfl) ?_
              refine nw_aald3 hx hb hK hO kr23 (k := 114) (b := 115) rfl hP (by omega) (by omega) dDA_readSecret_162 (fun r24 kr24 => ?_)
              have hn21 : nsp (115 + i23) = (0, 256, []) := rows_ok 115 8 (by decide) _ (by omega)
              refine lv_bipush (v := nI 13) hx hb dDA_readSecret_163 (by decide) ?_
              refine lv_sipush (v := nI 4096) hx hb dDA_readSecret_165 (by decide) ?_
              refine lv_aload_n hx hb dDA_readSecret_168 rfl (lv_at hl 4 rfl) ?_
              refine lv_iload_n hx hb dDA_readSecret_169 rfl (lv_at hl 1 rfl) ?_
              refine mp_v (cx := []) (wr := []) hP hD hS hA [] [] rfl rfl rfl (by decide) (va_runV (As := [.ref r24, .int (nI 13), .int (nI 4096), .ref sk, .int (nI pz23)]) (rest := []) F (N_DA_readFlipped l g _ T s24 pl hO hU h0 r24 sk (115 + i23) 13 (nI 4096) psk 2560 pz23 k_h0 kr24 hn21 k_sk n_sk (by omega) (by omega) (by omega)) (cwV 5 hts (wg_app (wg_c kw_1183 (wg_c kw_1185 (wg_c ks_35 (wg_c kw_5 wg_n)))) kw_1186) rfl rfl rfl (by decide +kernel) ⟨by decide, by decide⟩) (pn_W "LatticeKeys$Dsa" (en_ok g) (ci := 6) (kn := 39) (fl := [(3, 16), (3, 22), (3, 37), (3, 40), (3, 97), (3, 105), (3, 114), (3, 123), (3, 131), (3, 140), (3, 141), (3, 142), (3, 143), (3, 144), (3, 145), (3, 146), (3, 147)]) hK hO k_h0 rfl hP hD hS hA hE [] rfl rfl rfl) rfl rfl hl.1 rfl (lv_room (Nat.le_of_ble_eq_true rfl)) dDA_readSecret_170 ⟨by omega, by omega⟩) (fun  u22 H locs hu22 hP hD hS => ?_)
              obtain ⟨s25, pl⟩ := u22
              obtain ⟨⟨eq22, hFc22, -⟩, hO⟩ := hu22
              have hO : okn g T s25 pl := hO
              have hP : va_P g.1 vcl ([] ++ pl) _ := hP
              have hD : va_D _ ([] ++ pl) := hD
              have hFc22 : frm (M_DA_readFlipped (115 + i23)) s24 s25 := hFc22
              replace hR := bnd_step hR eq22
              have hF := frm_tr hF hFc22 (fun k hk => by unfold M_DA_readFlipped at hk; unfold M_DA_readSecret_0; omega)
              refine W.widen (k := 0) (n := 0) (by omega) (by omega) ?_
              refine lv_aload_n hx hb dDA_readSecret_173 rfl (lv_at hl 2 rfl) ?_
              refine nw_get (C := "LatticeKeys$Dsa") (TT := T_DA) (N := 17) hx hb hts (wg_ft i_DA) hown hK hO k_h0 (kn := 39) (ci := 6) (fl := [(3, 16), (3, 22), (3, 37), (3, 40), (3, 97), (3, 105), (3, 114), (3, 123), (3, 131), (3, 140), (3, 141), (3, 142), (3, 143), (3, 144), (3, 145), (3, 146), (3, 147)]) rfl hP rfl 1 (by decide) (hts _ (wg_t kw_166)) (fun _ h9 => h9) (cd := (3, 22)) rfl dDA_readSecret_174 (fun v28 hv28 => ?_)
              obtain ⟨r25, rfl, kr25⟩ := (show ∃ r : Nat, v28 = .ref r ∧ T r = some 22 from hv28)
              refine lv_aload_n hx hb dDA_readSecret_177 rfl (lv_at hl 2 rfl) ?_
              refine nw_get (C := "LatticeKeys$Dsa") (TT := T_DA) (N := 17) hx hb hts (wg_ft i_DA) hown hK hO k_h0 (kn := 39) (ci := 6) (fl := [(3, 16), (3, 22), (3, 37), (3, 40), (3, 97), (3, 105), (3, 114), (3, 123), (3, 131), (3, 140), (3, 141), (3, 142), (3, 143), (3, 144), (3, 145), (3, 146), (3, 147)]) rfl hP rfl 6 (by decide) (hts _ (wg_t kw_171)) (fun _ h9 => h9) (cd := (3, 114)) rfl dDA_readSecret_178 (fun v29 hv29 => ?_)
              obtain ⟨r26, rfl, kr26⟩ := (show ∃ r : Nat, v29 = .ref r ∧ T r = some 114 from hv29)
              refine lv_iload hx hb dDA_readSecret_181 (lv_at hl 0 rfl) ?_
              refine nw_aald3 hx hb hK hO kr26 (k := 114) (b := 115) rfl hP (by omega) (by omega) dDA_readSecret_183 (fun r27 kr27 => ?_)
              have hn22 : nsp (115 + i23) = (0, 256, []) := rows_ok 115 8 (by decide) _ (by omega)
              refine mp_v (cx := []) (wr := []) hP hD hS hA [] [] rfl rfl rfl (by decide) (va_runV (As := [.ref r27]) (rest := []) F (N_RG_transform_8 l g _ T s25 pl hO hU r25 r27 (115 + i23) kr25 kr27 hn22) (cwV 1 hts (wg_app (wg_c kw_711 (wg_c kw_637 (wg_c kw_638 (wg_c kw_4 wg_n)))) kw_639) rfl rfl rfl (by decide +kernel) ⟨by decide, by decide⟩) (pn_W "LatticeKeys$Ring" (en_ok g) (ci := 4) (kn := 22) (fl := [(1, 8380417), (1, 8), (1, 8347681), (3, 23)]) hK hO kr25 rfl hP hD hS hA hE [] rfl rfl rfl) rfl rfl hl.1 rfl (lv_room (Nat.le_of_ble_eq_true rfl)) dDA_readSecret_184 ⟨by omega, by omega⟩) (fun  u23 H locs hu23 hP hD hS => ?_)
              obtain ⟨s26, pl⟩ := u23
              obtain ⟨⟨eq23, hFc23, -⟩, hO⟩ := hu23
              have hO : okn g T s26 pl := hO
              have hP : va_P g.1 vcl ([] ++ pl) _ := hP
              have hD : va_D _ ([] ++ pl) := hD
              have hFc23 : frm (M_RG_transform_8 (115 + i23)) s25 s26 := hFc23
              replace hR := bnd_step hR eq23
              have hF := frm_tr hF hFc23 (fun k hk => by unfold M_RG_transform_8 at hk; unfold M_DA_readSecret_0; omega)
              refine W.widen (k := 0) (n := 0) (by omega) (by omega) ?_
              refine mi_iincW (k := 1) (x := pz23) (d := 416) (y := pz23 + 416) (lv' := [(3, .int (nI (pz23 + 416))), (4, .int (nI i23)), (0, .ref h0), (1, .ref st), (2, .ref sk)]) hx hb dDA_readSecret_187 hl rfl (by decide) rfl (by decide) rfl (fun ls hl => ?_)
              refine mi_iinc (k := 1) (x := i23) (d := 1) (y := i23 + 1) (lv' := [(4, .int (nI (i23 + 1))), (3, .int (nI (pz23 + 416))), (0, .ref h0), (1, .ref st), (2, .ref sk)]) hx hb dDA_readSecret_193 hl rfl (by decide) rfl (by decide) rfl (fun ls hl => ?_)
              refine lv_goto (tgt := 146) hx hb dDA_readSecret_196 (by decide) ?_
              exact ih23 (i23 + 1) (pz23 + 416) s26 pl ls H locs (by omega) (by omega) hF hR (lv_sub hl [0, 1, 2, 3, 4] rfl) hO hP hD hS
          exact lp23 4 0 pz22 s23 pl ls _ _ (by omega) (by omega) hF hR (lv_sub hl [0, 1, 2, 3, 4] rfl) hO hP hD hS
        | succ n22 ih22 =>
          intro i22 pz22 s23 pl ls H locs hm22 hi22 hF hR hl hO hP hD hS
          refine lv_iload hx hb dDA_readSecret_83 (lv_at hl 0 rfl) ?_
          refine lv_aload_n hx hb dDA_readSecret_85 rfl (lv_at hl 3 rfl) ?_
          refine nw_get (C := "LatticeKeys$DsaSet") (TT := T_DS) (N := 17) hx hb hts (wg_ft i_DS) hown hK hO k_st (kn := 9) (ci := 2) (fl := [(1, 4), (1, 4), (1, 2), (1, 3), (1, 39), (1, 32), (1, 18), (1, 131072), (1, 44), (1, 6), (1, 95232), (1, 80), (1, 78), (1, 1312), (1, 2560), (1, 2336), (1, 2420)]) rfl hP rfl 0 (by decide) (hts _ (wg_t kw_302)) (fun _ h9 => h9) (cd := (1, 4)) rfl dDA_readSecret_86 (fun v30 hv30 => ?_)
          obtain rfl := (show v30 = .int (nI 4) from hv30)
          refine mi_ge (tgt := 143) hx hb dDA_readSecret_89 (by decide) (by omega) (by omega) (fun h25 => absurd h25 (by omega)) (fun h25 => ?_)
          refine lv_aload_n hx hb dDA_readSecret_92 rfl (lv_at hl 2 rfl) ?_
          refine lv_aload_n hx hb dDA_readSecret_93 rfl (lv_at hl 2 rfl) ?_
          refine nw_get (C := "LatticeKeys$Dsa") (TT := T_DA) (N := 17) hx hb hts (wg_ft i_DA) hown hK hO k_h0 (kn := 39) (ci := 6) (fl := [(3, 16), (3, 22), (3, 37), (3, 40), (3, 97), (3, 105), (3, 114), (3, 123), (3, 131), (3, 140), (3, 141), (3, 142), (3, 143), (3, 144), (3, 145), (3, 146), (3, 147)]) rfl hP rfl 5 (by decide) (hts _ (wg_t kw_170)) (fun _ h9 => h9) (cd := (3, 105)) rfl dDA_readSecret_94 (fun v31 hv31 => ?_)
          obtain ⟨r28, rfl, kr28⟩ := (show ∃ r : Nat, v31 = .ref r ∧ T r = some 105 from hv31)
          refine lv_iload hx hb dDA_readSecret_97 (lv_at hl 0 rfl) ?_
          refine nw_aald3 hx hb hK hO kr28 (k := 105) (b := 106) rfl hP (by omega) (by omega) dDA_readSecret_99 (fun r29 kr29 => ?_)
          have hn23 : nsp (106 + i22) = (0, 256, []) := rows_ok 106 8 (by decide) _ (by omega)
          refine lv_aload_n hx hb dDA_readSecret_100 rfl (lv_at hl 3 rfl) ?_
          refine nw_get (C := "LatticeKeys$DsaSet") (TT := T_DS) (N := 17) hx hb hts (wg_ft i_DS) hown hK hO k_st (kn := 9) (ci := 2) (fl := [(1, 4), (1, 4), (1, 2), (1, 3), (1, 39), (1, 32), (1, 18), (1, 131072), (1, 44), (1, 6), (1, 95232), (1, 80), (1, 78), (1, 1312), (1, 2560), (1, 2336), (1, 2420)]) rfl hP rfl 3 (by decide) (hts _ (wg_t kw_310)) (fun _ h9 => h9) (cd := (1, 3)) rfl dDA_readSecret_101 (fun v32 hv32 => ?_)
          obtain rfl := (show v32 = .int (nI 3) from hv32)
          refine lv_aload_n hx hb dDA_readSecret_104 rfl (lv_at hl 3 rfl) ?_
          refine nw_get (C := "LatticeKeys$DsaSet") (TT := T_DS) (N := 17) hx hb hts (wg_ft i_DS) hown hK hO k_st (kn := 9) (ci := 2) (fl := [(1, 4), (1, 4), (1, 2), (1, 3), (1, 39), (1, 32), (1, 18), (1, 131072), (1, 44), (1, 6), (1, 95232), (1, 80), (1, 78), (1, 1312), (1, 2560), (1, 2336), (1, 2420)]) rfl hP rfl 2 (by decide) (hts _ (wg_t kw_307)) (fun _ h9 => h9) (cd := (1, 2)) rfl dDA_readSecret_105 (fun v33 hv33 => ?_)
          obtain rfl := (show v33 = .int (nI 2) from hv33)
          refine lv_aload_n hx hb dDA_readSecret_108 rfl (lv_at hl 4 rfl) ?_
          refine lv_iload_n hx hb dDA_readSecret_109 rfl (lv_at hl 1 rfl) ?_
          refine mp_v (cx := []) (wr := []) hP hD hS hA [] [] rfl rfl rfl (by decide) (va_runV (As := [.ref r29, .int (nI 3), .int (nI 2), .ref sk, .int (nI pz22)]) (rest := []) F (N_DA_readFlipped l g _ T s23 pl hO hU h0 r29 sk (106 + i22) 3 (nI 2) psk 2560 pz22 k_h0 kr29 hn23 k_sk n_sk (by omega) (by omega) (by omega)) (cwV 5 hts (wg_app (wg_c kw_1183 (wg_c kw_1185 (wg_c ks_35 (wg_c kw_5 wg_n)))) kw_1186) rfl rfl rfl (by decide +kernel) ⟨by decide, by decide⟩) (pn_W "LatticeKeys$Dsa" (en_ok g) (ci := 6) (kn := 39) (fl := [(3, 16), (3, 22), (3, 37), (3, 40), (3, 97), (3, 105), (3, 114), (3, 123), (3, 131), (3, 140), (3, 141), (3, 142), (3, 143), (3, 144), (3, 145), (3, 146), (3, 147)]) hK hO k_h0 rfl hP hD hS hA hE [] rfl rfl rfl) rfl rfl hl.1 rfl (lv_room (Nat.le_of_ble_eq_true rfl)) dDA_readSecret_110 ⟨by omega, by omega⟩) (fun  u24 H locs hu24 hP hD hS => ?_)
          obtain ⟨s27, pl⟩ := u24
          obtain ⟨⟨eq24, hFc24, -⟩, hO⟩ := hu24
          have hO : okn g T s27 pl := hO
          have hP : va_P g.1 vcl ([] ++ pl) _ := hP
          have hD : va_D _ ([] ++ pl) := hD
          have hFc24 : frm (M_DA_readFlipped (106 + i22)) s23 s27 := hFc24
          replace hR := bnd_step hR eq24
          have hF := frm_tr hF hFc24 (fun k hk => by unfold M_DA_readFlipped at hk; unfold M_DA_readSecret_0; omega)
          refine W.widen (k := 0) (n := 0) (by omega) (by omega) ?_
          refine lv_aload_n hx hb dDA_readSecret_113 rfl (lv_at hl 2 rfl) ?_
          refine nw_get (C := "LatticeKeys$Dsa") (TT := T_DA) (N := 17) hx hb hts (wg_ft i_DA) hown hK hO k_h0 (kn := 39) (ci := 6) (fl := [(3, 16), (3, 22), (3, 37), (3, 40), (3, 97), (3, 105), (3, 114), (3, 123), (3, 131), (3, 140), (3, 141), (3, 142), (3, 143), (3, 144), (3, 145), (3, 146), (3, 147)]) rfl hP rfl 1 (by decide) (hts _ (wg_t kw_166)) (fun _ h9 => h9) (cd := (3, 22)) rfl dDA_readSecret_114 (fun v34 hv34 => ?_)
          obtain ⟨r30, rfl, kr30⟩ := (show ∃ r : Nat, v34 = .ref r ∧ T r = some 22 from hv34)
          refine lv_aload_n hx hb dDA_readSecret_117 rfl (lv_at hl 2 rfl) ?_
          refine nw_get (C := "LatticeKeys$Dsa") (TT := T_DA) (N := 17) hx hb hts (wg_ft i_DA) hown hK hO k_h0 (kn := 39) (ci := 6) (fl := [(3, 16), (3, 22), (3, 37), (3, 40), (3, 97), (3, 105), (3, 114), (3, 123), (3, 131), (3, 140), (3, 141), (3, 142), (3, 143), (3, 144), (3, 145), (3, 146), (3, 147)]) rfl hP rfl 5 (by decide) (hts _ (wg_t kw_170)) (fun _ h9 => h9) (cd := (3, 105)) rfl dDA_readSecret_118 (fun v35 hv35 => ?_)
          obtain ⟨r31, rfl, kr31⟩ := (show ∃ r : Nat, v35 = .ref r ∧ T r = some 105 from hv35)
          refine lv_iload hx hb dDA_readSecret_121 (lv_at hl 0 rfl) ?_
          refine nw_aald3 hx hb hK hO kr31 (k := 105) (b := 106) rfl hP (by omega) (by omega) dDA_readSecret_123 (fun r32 kr32 => ?_)
          have hn24 : nsp (106 + i22) = (0, 256, []) := rows_ok 106 8 (by decide) _ (by omega)
          refine mp_v (cx := []) (wr := []) hP hD hS hA [] [] rfl rfl rfl (by decide) (va_runV (As := [.ref r32]) (rest := []) F (N_RG_transform_8 l g _ T s27 pl hO hU r30 r32 (106 + i22) kr30 kr32 hn24) (cwV 1 hts (wg_app (wg_c kw_711 (wg_c kw_637 (wg_c kw_638 (wg_c kw_4 wg_n)))) kw_639) rfl rfl rfl (by decide +kernel) ⟨by decide, by decide⟩) (pn_W "LatticeKeys$Ring" (en_ok g) (ci := 4) (kn := 22) (fl := [(1, 8380417), (1, 8), (1, 8347681), (3, 23)]) hK hO kr30 rfl hP hD hS hA hE [] rfl rfl rfl) rfl rfl hl.1 rfl (lv_room (Nat.le_of_ble_eq_true rfl)) dDA_readSecret_124 ⟨by omega, by omega⟩) (fun  u25 H locs hu25 hP hD hS => ?_)
          obtain ⟨s28, pl⟩ := u25
          obtain ⟨⟨eq25, hFc25, -⟩, hO⟩ := hu25
          have hO : okn g T s28 pl := hO
          have hP : va_P g.1 vcl ([] ++ pl) _ := hP
          have hD : va_D _ ([] ++ pl) := hD
          have hFc25 : frm (M_RG_transform_8 (106 + i22)) s27 s28 := hFc25
          replace hR := bnd_step hR eq25
          have hF := frm_tr hF hFc25 (fun k hk => by unfold M_RG_transform_8 at hk; unfold M_DA_readSecret_0; omega)
          refine W.widen (k := 0) (n := 0) (by omega) (by omega) ?_
          refine lv_iload_n hx hb dDA_readSecret_127 rfl (lv_at hl 1 rfl) ?_
          refine lv_bipush (v := nI 32) hx hb dDA_readSecret_128 (by decide) ?_
          refine lv_aload_n hx hb dDA_readSecret_130 rfl (lv_at hl 3 rfl) ?_
          refine nw_get (C := "LatticeKeys$DsaSet") (TT := T_DS) (N := 17) hx hb hts (wg_ft i_DS) hown hK hO k_st (kn := 9) (ci := 2) (fl := [(1, 4), (1, 4), (1, 2), (1, 3), (1, 39), (1, 32), (1, 18), (1, 131072), (1, 44), (1, 6), (1, 95232), (1, 80), (1, 78), (1, 1312), (1, 2560), (1, 2336), (1, 2420)]) rfl hP rfl 3 (by decide) (hts _ (wg_t kw_310)) (fun _ h9 => h9) (cd := (1, 3)) rfl dDA_readSecret_131 (fun v36 hv36 => ?_)
          obtain rfl := (show v36 = .int (nI 3) from hv36)
          refine mi_imul hx hb dDA_readSecret_134 ?_
          refine mi_as (show nI (32 * 3) = nI 96 from rfl) ?_
          refine mi_iadd hx hb dDA_readSecret_135 ?_
          refine lv_istore_n (lv' := [(3, .int (nI (pz22 + 96))), (4, .int (nI i22)), (0, .ref h0), (1, .ref st), (2, .ref sk)]) hx hb dDA_readSecret_136 rfl hl (by decide) rfl (fun ls hl => ?_)
          refine mi_iinc (k := 1) (x := i22) (d := 1) (y := i22 + 1) (lv' := [(4, .int (nI (i22 + 1))), (3, .int (nI (pz22 + 96))), (0, .ref h0), (1, .ref st), (2, .ref sk)]) hx hb dDA_readSecret_137 hl rfl (by decide) rfl (by decide) rfl (fun ls hl => ?_)
          refine lv_goto (tgt := 83) hx hb dDA_readSecret_140 (by decide) ?_
          exact ih22 (i22 + 1) (pz22 + 96) s28 pl ls H locs (by omega) (by omega) hF hR (lv_sub hl [0, 1, 2, 3, 4] rfl) hO hP hD hS
      exact lp22 4 0 pz21 s22 pl ls _ _ (by omega) (by omega) hF hR (lv_sub hl [0, 1, 2, 3, 4] rfl) hO hP hD hS
    | succ n21 ih21 =>
      intro i21 pz21 s22 pl ls H locs hm21 hi21 hF hR hl hO hP hD hS
      refine lv_iload hx hb dDA_readSecret_20 (lv_at hl 0 rfl) ?_
      refine lv_aload_n hx hb dDA_readSecret_22 rfl (lv_at hl 3 rfl) ?_
      refine nw_get (C := "LatticeKeys$DsaSet") (TT := T_DS) (N := 17) hx hb hts (wg_ft i_DS) hown hK hO k_st (kn := 9) (ci := 2) (fl := [(1, 4), (1, 4), (1, 2), (1, 3), (1, 39), (1, 32), (1, 18), (1, 131072), (1, 44), (1, 6), (1, 95232), (1, 80), (1, 78), (1, 1312), (1, 2560), (1, 2336), (1, 2420)]) rfl hP rfl 1 (by decide) (hts _ (wg_t kw_305)) (fun _ h9 => h9) (cd := (1, 4)) rfl dDA_readSecret_23 (fun v37 hv37 => ?_)
      obtain rfl := (show v37 = .int (nI 4) from hv37)
      refine mi_ge (tgt := 80) hx hb dDA_readSecret_26 (by decide) (by omega) (by omega) (fun h26 => absurd h26 (by omega)) (fun h26 => ?_)
      refine lv_aload_n hx hb dDA_readSecret_29 rfl (lv_at hl 2 rfl) ?_
      refine lv_aload_n hx hb dDA_readSecret_30 rfl (lv_at hl 2 rfl) ?_
      refine nw_get (C := "LatticeKeys$Dsa") (TT := T_DA) (N := 17) hx hb hts (wg_ft i_DA) hown hK hO k_h0 (kn := 39) (ci := 6) (fl := [(3, 16), (3, 22), (3, 37), (3, 40), (3, 97), (3, 105), (3, 114), (3, 123), (3, 131), (3, 140), (3, 141), (3, 142), (3, 143), (3, 144), (3, 145), (3, 146), (3, 147)]) rfl hP rfl 4 (by decide) (hts _ (wg_t kw_169)) (fun _ h9 => h9) (cd := (3, 97)) rfl dDA_readSecret_31 (fun v38 hv38 => ?_)
      obtain ⟨r33, rfl, kr33⟩ := (show ∃ r : Nat, v38 = .ref r ∧ T r = some 97 from hv38)
      refine lv_iload hx hb dDA_readSecret_34 (lv_at hl 0 rfl) ?_
      refine nw_aald3 hx hb hK hO kr33 (k := 97) (b := 98) rfl hP (by omega) (by omega) dDA_readSecret_36 (fun r34 kr34 => ?_)
      have hn25 : nsp (98 + i21) = (0, 256, []) := rows_ok 98 7 (by decide) _ (by omega)
      refine lv_aload_n hx hb dDA_readSecret_37 rfl (lv_at hl 3 rfl) ?_
      refine nw_get (C := "LatticeKeys$DsaSet") (TT := T_DS) (N := 17) hx hb hts (wg_ft i_DS) hown hK hO k_st (kn := 9) (ci := 2) (fl := [(1, 4), (1, 4), (1, 2), (1, 3), (1, 39), (1, 32), (1, 18), (1, 131072), (1, 44), (1, 6), (1, 95232), (1, 80), (1, 78), (1, 1312), (1, 2560), (1, 2336), (1, 2420)]) rfl hP rfl 3 (by decide) (hts _ (wg_t kw_310)) (fun _ h9 => h9) (cd := (1, 3)) rfl dDA_readSecret_38 (fun v39 hv39 => ?_)
      obtain rfl := (show v39 = .int (nI 3) from hv39)
      refine lv_aload_n hx hb dDA_readSecret_41 rfl (lv_at hl 3 rfl) ?_
      refine nw_get (C := "LatticeKeys$DsaSet") (TT := T_DS) (N := 17) hx hb hts (wg_ft i_DS) hown hK hO k_st (kn := 9) (ci := 2) (fl := [(1, 4), (1, 4), (1, 2), (1, 3), (1, 39), (1, 32), (1, 18), (1, 131072), (1, 44), (1, 6), (1, 95232), (1, 80), (1, 78), (1, 1312), (1, 2560), (1, 2336), (1, 2420)]) rfl hP rfl 2 (by decide) (hts _ (wg_t kw_307)) (fun _ h9 => h9) (cd := (1, 2)) rfl dDA_readSecret_42 (fun v40 hv40 => ?_)
      obtain rfl := (show v40 = .int (nI 2) from hv40)
      refine lv_aload_n hx hb dDA_readSecret_45 rfl (lv_at hl 4 rfl) ?_
      refine lv_iload_n hx hb dDA_readSecret_46 rfl (lv_at hl 1 rfl) ?_
      refine mp_v (cx := []) (wr := []) hP hD hS hA [] [] rfl rfl rfl (by decide) (va_runV (As := [.ref r34, .int (nI 3), .int (nI 2), .ref sk, .int (nI pz21)]) (rest := []) F (N_DA_readFlipped l g _ T s22 pl hO hU h0 r34 sk (98 + i21) 3 (nI 2) psk 2560 pz21 k_h0 kr34 hn25 k_sk n_sk (by omega) (by omega) (by omega)) (cwV 5 hts (wg_app (wg_c kw_1183 (wg_c kw_1185 (wg_c ks_35 (wg_c kw_5 wg_n)))) kw_1186) rfl rfl rfl (by decide +kernel) ⟨by decide, by decide⟩) (pn_W "LatticeKeys$Dsa" (en_ok g) (ci := 6) (kn := 39) (fl := [(3, 16), (3, 22), (3, 37), (3, 40), (3, 97), (3, 105), (3, 114), (3, 123), (3, 131), (3, 140), (3, 141), (3, 142), (3, 143), (3, 144), (3, 145), (3, 146), (3, 147)]) hK hO k_h0 rfl hP hD hS hA hE [] rfl rfl rfl) rfl rfl hl.1 rfl (lv_room (Nat.le_of_ble_eq_true rfl)) dDA_readSecret_47 ⟨by omega, by omega⟩) (fun  u26 H locs hu26 hP hD hS => ?_)
      obtain ⟨s29, pl⟩ := u26
      obtain ⟨⟨eq26, hFc26, -⟩, hO⟩ := hu26
      have hO : okn g T s29 pl := hO
      have hP : va_P g.1 vcl ([] ++ pl) _ := hP
      have hD : va_D _ ([] ++ pl) := hD
      have hFc26 : frm (M_DA_readFlipped (98 + i21)) s22 s29 := hFc26
      replace hR := bnd_step hR eq26
      have hF := frm_tr hF hFc26 (fun k hk => by unfold M_DA_readFlipped at hk; unfold M_DA_readSecret_0; omega)
      refine W.widen (k := 0) (n := 0) (by omega) (by omega) ?_
      refine lv_aload_n hx hb dDA_readSecret_50 rfl (lv_at hl 2 rfl) ?_
      refine nw_get (C := "LatticeKeys$Dsa") (TT := T_DA) (N := 17) hx hb hts (wg_ft i_DA) hown hK hO k_h0 (kn := 39) (ci := 6) (fl := [(3, 16), (3, 22), (3, 37), (3, 40), (3, 97), (3, 105), (3, 114), (3, 123), (3, 131), (3, 140), (3, 141), (3, 142), (3, 143), (3, 144), (3, 145), (3, 146), (3, 147)]) rfl hP rfl 1 (by decide) (hts _ (wg_t kw_166)) (fun _ h9 => h9) (cd := (3, 22)) rfl dDA_readSecret_51 (fun v41 hv41 => ?_)
      obtain ⟨r35, rfl, kr35⟩ := (show ∃ r : Nat, v41 = .ref r ∧ T r = some 22 from hv41)
      refine lv_aload_n hx hb dDA_readSecret_54 rfl (lv_at hl 2 rfl) ?_
      refine nw_get (C := "LatticeKeys$Dsa") (TT := T_DA) (N := 17) hx hb hts (wg_ft i_DA) hown hK hO k_h0 (kn := 39) (ci := 6) (fl := [(3, 16), (3, 22), (3, 37), (3, 40), (3, 97), (3, 105), (3, 114), (3, 123), (3, 131), (3, 140), (3, 141), (3, 142), (3, 143), (3, 144), (3, 145), (3, 146), (3, 147)]) rfl hP rfl 4 (by decide) (hts _ (wg_t kw_169)) (fun _ h9 => h9) (cd := (3, 97)) rfl dDA_readSecret_55 (fun v42 hv42 => ?_)
      obtain ⟨r36, rfl, kr36⟩ := (show ∃ r : Nat, v42 = .ref r ∧ T r = some 97 from hv42)
      refine lv_iload hx hb dDA_readSecret_58 (lv_at hl 0 rfl) ?_
      refine nw_aald3 hx hb hK hO kr36 (k := 97) (b := 98) rfl hP (by omega) (by omega) dDA_readSecret_60 (fun r37 kr37 => ?_)
      have hn26 : nsp (98 + i21) = (0, 256, []) := rows_ok 98 7 (by decide) _ (by omega)
      refine mp_v (cx := []) (wr := []) hP hD hS hA [] [] rfl rfl rfl (by decide) (va_runV (As := [.ref r37]) (rest := []) F (N_RG_transform_8 l g _ T s29 pl hO hU r35 r37 (98 + i21) kr35 kr37 hn26) (cwV 1 hts (wg_app (wg_c kw_711 (wg_c kw_637 (wg_c kw_638 (wg_c kw_4 wg_n)))) kw_639) rfl rfl rfl (by decide +kernel) ⟨by decide, by decide⟩) (pn_W "LatticeKeys$Ring" (en_ok g) (ci := 4) (kn := 22) (fl := [(1, 8380417), (1, 8), (1, 8347681), (3, 23)]) hK hO kr35 rfl hP hD hS hA hE [] rfl rfl rfl) rfl rfl hl.1 rfl (lv_room (Nat.le_of_ble_eq_true rfl)) dDA_readSecret_61 ⟨by omega, by omega⟩) (fun  u27 H locs hu27 hP hD hS => ?_)
      obtain ⟨s30, pl⟩ := u27
      obtain ⟨⟨eq27, hFc27, -⟩, hO⟩ := hu27
      have hO : okn g T s30 pl := hO
      have hP : va_P g.1 vcl ([] ++ pl) _ := hP
      have hD : va_D _ ([] ++ pl) := hD
      have hFc27 : frm (M_RG_transform_8 (98 + i21)) s29 s30 := hFc27
      replace hR := bnd_step hR eq27
      have hF := frm_tr hF hFc27 (fun k hk => by unfold M_RG_transform_8 at hk; unfold M_DA_readSecret_0; omega)
      refine W.widen (k := 0) (n := 0) (by omega) (by omega) ?_
      refine lv_iload_n hx hb dDA_readSecret_64 rfl (lv_at hl 1 rfl) ?_
      refine lv_bipush (v := nI 32) hx hb dDA_readSecret_65 (by decide) ?_
      refine lv_aload_n hx hb dDA_readSecret_67 rfl (lv_at hl 3 rfl) ?_
      refine nw_get (C := "LatticeKeys$DsaSet") (TT := T_DS) (N := 17) hx hb hts (wg_ft i_DS) hown hK hO k_st (kn := 9) (ci := 2) (fl := [(1, 4), (1, 4), (1, 2), (1, 3), (1, 39), (1, 32), (1, 18), (1, 131072), (1, 44), (1, 6), (1, 95232), (1, 80), (1, 78), (1, 1312), (1, 2560), (1, 2336), (1, 2420)]) rfl hP rfl 3 (by decide) (hts _ (wg_t kw_310)) (fun _ h9 => h9) (cd := (1, 3)) rfl dDA_readSecret_68 (fun v43 hv43 => ?_)
      obtain rfl := (show v43 = .int (nI 3) from hv43)
      refine mi_imul hx hb dDA_readSecret_71 ?_
      refine mi_as (show nI (32 * 3) = nI 96 from rfl) ?_
      refine mi_iadd hx hb dDA_readSecret_72 ?_
      refine lv_istore_n (lv' := [(3, .int (nI (pz21 + 96))), (4, .int (nI i21)), (0, .ref h0), (1, .ref st), (2, .ref sk)]) hx hb dDA_readSecret_73 rfl hl (by decide) rfl (fun ls hl => ?_)
      refine mi_iinc (k := 1) (x := i21) (d := 1) (y := i21 + 1) (lv' := [(4, .int (nI (i21 + 1))), (3, .int (nI (pz21 + 96))), (0, .ref h0), (1, .ref st), (2, .ref sk)]) hx hb dDA_readSecret_74 hl rfl (by decide) rfl (by decide) rfl (fun ls hl => ?_)
      refine lv_goto (tgt := 20) hx hb dDA_readSecret_77 (by decide) ?_
      exact ih21 (i21 + 1) (pz21 + 96) s30 pl ls H locs (by omega) (by omega) hF hR (lv_sub hl [0, 1, 2, 3, 4] rfl) hO hP hD hS
  exact lp21 4 0 128 s21 pl ls _ _ (by omega) (by omega) hF hR (lv_sub hl [0, 1, 2, 3, 4] rfl) hO hP hD hS
def M_DA_readSecret_1 (k : Nat) : Prop := (106 ≤ k ∧ k < 114) ∨ (115 ≤ k ∧ k < 123) ∨ (41 ≤ k ∧ k < 97) ∨ (98 ≤ k ∧ k < 105) ∨ k = 18 ∨ (0 : Nat) = 1
noncomputable def F_DA_readSecret_1_L2 (psk : Nat) : Nat → Nat → Nat → Sto → Sto
  | 0, i23, pz23, s24 => s24
  | n23 + 1, i23, pz23, s24 => bnd (F_DA_readFlipped (115 + i23) 13 (nI 4096) psk 4032 pz23 s24) fun s25 => bnd (F_RG_transform_8 (115 + i23) s25) fun s26 => F_DA_readSecret_1_L2 psk n23 (i23 + 1) (pz23 + 416) s26
noncomputable def F_DA_readSecret_1_L1 (psk : Nat) : Nat → Nat → Nat → Sto → Sto
  | 0, i22, pz22, s23 => F_DA_readSecret_1_L2 psk 6 0 pz22 s23
  | n22 + 1, i22, pz22, s23 => bnd (F_DA_readFlipped (106 + i22) 4 (nI 4) psk 4032 pz22 s23) fun s27 => bnd (F_RG_transform_8 (106 + i22) s27) fun s28 => F_DA_readSecret_1_L1 psk n22 (i22 + 1) (pz22 + 128) s28
noncomputable def F_DA_readSecret_1_L0 (psk : Nat) : Nat → Nat → Nat → Sto → Sto
  | 0, i21, pz21, s22 => F_DA_readSecret_1_L1 psk 6 0 pz21 s22
  | n21 + 1, i21, pz21, s22 => bnd (F_DA_readFlipped (98 + i21) 4 (nI 4) psk 4032 pz21 s22) fun s29 => bnd (F_RG_transform_8 (98 + i21) s29) fun s30 => F_DA_readSecret_1_L0 psk n21 (i21 + 1) (pz21 + 128) s30
noncomputable def F_DA_readSecret_1 (psk : Nat) (s : Sto) : Sto := bnd (F_SA_expandMatrix_1 psk 4032 s) fun s21 => F_DA_readSecret_1_L0 psk 5 0 128 s21
set_option maxHeartbeats 8000000 in
set_option maxRecDepth 100000 in
theorem N_DA_readSecret_1 (l : Launch) (g : Gd) (sz : Nat) (T : TyN) (s : Sto) (pl : va_W) (hO : okn g T s pl) (hU : inj T) (h0 st sk : Nat) (psk : Nat) (k_h0 : T h0 = some 39) (k_st : T st = some 10) (k_sk : T sk = some psk) (n_sk : nsp psk = (1, 4032, []))  : Met l y_DA_readSecret w_DA_readSecret ({ frames := 5, cells := 0, slots := 0, locals := 152 } : Room) (va_Pc [.ref h0, .ref st, .ref sk] (pr (en g) g.1 vcl sz ([] ++ pl))) (va_Qv (fun (u : (Sto) × va_W) => (u.1 = F_DA_readSecret_1 psk s ∧ frm (M_DA_readSecret_1) s u.1 ∧ True) ∧ okn g T u.1 u.2) (po g.1 vcl (va_A ([] ++ pl) sz) (fun (u : (Sto) × va_W) => [] ++ u.2)) (va_A ([] ++ pl) sz)) 0 0 (va_A ([] ++ pl) sz) := by
  refine mc_entry (cc := c_DA_readSecret) (maxL := 5) (ret := none) (by decide) rfl (Nat.le_of_ble_eq_true rfl) ?_
  intro p e s0 m args below meth c ls F hr hlk hnm hsz hP hD hE hA hl
  obtain ⟨hx, hb, hml, hown, hts⟩ := id F
  have hK := hE.1
  generalize va_A ([] ++ pl) sz = A at hD hE hA ⊢
  have hS : va_S A s0.heap s0.heap [] := va_S.rf
  have hl : lv_has ls 5 [(0, .ref h0), (1, .ref st), (2, .ref sk)] := hl
  have hR : F_DA_readSecret_1 psk s = F_DA_readSecret_1 psk s := rfl
  have hF : frm (M_DA_readSecret_1) s s := frm_rf
  refine lv_aload_n hx hb dDA_readSecret_0 rfl (lv_at hl 0 rfl) ?_
  refine nw_get (C := "LatticeKeys$Dsa") (TT := T_DA) (N := 17) hx hb hts (wg_ft i_DA) hown hK hO k_h0 (kn := 39) (ci := 6) (fl := [(3, 16), (3, 22), (3, 37), (3, 40), (3, 97), (3, 105), (3, 114), (3, 123), (3, 131), (3, 140), (3, 141), (3, 142), (3, 143), (3, 144), (3, 145), (3, 146), (3, 147)]) rfl hP rfl 2 (by decide) (hts _ (wg_t kw_167)) (fun _ h9 => h9) (cd := (3, 37)) rfl dDA_readSecret_1 (fun v21 hv21 => ?_)
  obtain ⟨r21, rfl, kr21⟩ := (show ∃ r : Nat, v21 = .ref r ∧ T r = some 37 from hv21)
  refine lv_aload_n hx hb dDA_readSecret_4 rfl (lv_at hl 1 rfl) ?_
  refine lv_aload_n hx hb dDA_readSecret_5 rfl (lv_at hl 2 rfl) ?_
  refine lv_aload_n hx hb dDA_readSecret_6 rfl (lv_at hl 0 rfl) ?_
  refine nw_get (C := "LatticeKeys$Dsa") (TT := T_DA) (N := 17) hx hb hts (wg_ft i_DA) hown hK hO k_h0 (kn := 39) (ci := 6) (fl := [(3, 16), (3, 22), (3, 37), (3, 40), (3, 97), (3, 105), (3, 114), (3, 123), (3, 131), (3, 140), (3, 141), (3, 142), (3, 143), (3, 144), (3, 145), (3, 146), (3, 147)]) rfl hP rfl 3 (by decide) (hts _ (wg_t kw_168)) (fun _ h9 => h9) (cd := (3, 40)) rfl dDA_readSecret_7 (fun v22 hv22 => ?_)
  obtain ⟨r22, rfl, kr22⟩ := (show ∃ r : Nat, v22 = .ref r ∧ T r = some 40 from hv22)
  refine mp_v (cx := []) (wr := []) hP hD hS hA [] [] rfl rfl rfl (by decide) (va_runV (As := [.ref st, .ref sk, .ref r22]) (rest := []) F (N_SA_expandMatrix_1 l g _ T s pl hO hU r21 st sk r22 psk 4032 kr21 k_st k_sk n_sk kr22 (by omega) (by omega)) (cwV 3 hts (wg_app (wg_c kw_703 (wg_c kw_704 (wg_c kw_705 (wg_c kw_6 wg_n)))) kw_706) rfl rfl rfl (by decide +kernel) ⟨by decide, by decide⟩) (pn_W "LatticeKeys$DsaSampler" (en_ok g) (ci := 7) (kn := 37) (fl := [(3, 18), (3, 38)]) hK hO kr21 rfl hP hD hS hA hE [] rfl rfl rfl) rfl rfl hl.1 rfl (lv_room (Nat.le_of_ble_eq_true rfl)) dDA_readSecret_10 ⟨by omega, by omega⟩) (fun  u21 H locs hu21 hP hD hS => ?_)
  obtain ⟨s21, pl⟩ := u21
  obtain ⟨⟨eq21, hFc21, -⟩, hO⟩ := hu21
  have hO : okn g T s21 pl := hO
  have hP : va_P g.1 vcl ([] ++ pl) _ := hP
  have hD : va_D _ ([] ++ pl) := hD
  have hFc21 : frm (M_SA_expandMatrix_1) s s21 := hFc21
  replace hR := bnd_step hR eq21
  have hF := frm_tr hF hFc21 (fun k hk => by unfold M_SA_expandMatrix_1 at hk; unfold M_DA_readSecret_1; omega)
  refine W.widen (k := 0) (n := 0) (by omega) (by omega) ?_
  refine lv_sipush (v := nI 128) hx hb dDA_readSecret_13 (by decide) ?_
  refine lv_istore_n (lv' := [(3, .int (nI 128)), (0, .ref h0), (1, .ref st), (2, .ref sk)]) hx hb dDA_readSecret_16 rfl hl (by decide) rfl (fun ls hl => ?_)
  refine lv_iconst (v := nI 0) hx hb dDA_readSecret_17 (by decide) ?_
  refine lv_istore (lv' := [(4, .int (nI 0)), (3, .int (nI 128)), (0, .ref h0), (1, .ref st), (2, .ref sk)]) hx hb dDA_readSecret_18 hl (by decide) rfl (fun ls hl => ?_)
  have lp21 : ∀ (n21 : Nat) (i21 : Nat) (pz21 : Nat) (s22 : Sto) (pl : va_W) (ls : Array Slot) (H : Heap) (locs : List Loc), n21 + i21 = 5 → (pz21 = 128 + 128 * i21) → frm (M_DA_readSecret_1) s s22 → F_DA_readSecret_1 psk s = F_DA_readSecret_1_L0 psk n21 i21 pz21 s22 → lv_has ls 5 [(4, .int (nI i21)), (3, .int (nI pz21)), (0, .ref h0), (1, .ref st), (2, .ref sk)] → okn g T s22 pl → va_P g.1 vcl ([] ++ pl) H → va_D A ([] ++ pl) → va_S A s0.heap H locs → W p l e ({ frames := 5, cells := 0, slots := 0, locals := 152 } : Room) s0 m args below meth c H locs 0 0 (MQ below (va_Qv (fun (u : (Sto) × va_W) => (u.1 = F_DA_readSecret_1 psk s ∧ frm (M_DA_readSecret_1) s u.1 ∧ True) ∧ okn g T u.1 u.2) (po g.1 vcl A (fun (u : (Sto) × va_W) => [] ++ u.2)) A) args s0 0 0 A) (F0 m 20 ls []) := by
    intro n21
    induction n21 with
    | zero =>
      intro i21 pz21 s22 pl ls H locs hm21 hi21 hF hR hl hO hP hD hS
      refine lv_iload hx hb dDA_readSecret_20 (lv_at hl 0 rfl) ?_
      refine lv_aload_n hx hb dDA_readSecret_22 rfl (lv_at hl 3 rfl) ?_
      refine nw_get (C := "LatticeKeys$DsaSet") (TT := T_DS) (N := 17) hx hb hts (wg_ft i_DS) hown hK hO k_st (kn := 10) (ci := 2) (fl := [(1, 6), (1, 5), (1, 4), (1, 4), (1, 49), (1, 48), (1, 20), (1, 524288), (1, 16), (1, 4), (1, 261888), (1, 55), (1, 196), (1, 1952), (1, 4032), (1, 3248), (1, 3309)]) rfl hP rfl 1 (by decide) (hts _ (wg_t kw_305)) (fun _ h9 => h9) (cd := (1, 5)) rfl dDA_readSecret_23 (fun v23 hv23 => ?_)
      obtain rfl := (show v23 = .int (nI 5) from hv23)
      refine mi_ge (tgt := 80) hx hb dDA_readSecret_26 (by decide) (by omega) (by omega) (fun h21 => ?_) (fun h21 => absurd h21 (by omega))
      refine lv_iconst (v := nI 0) hx hb dDA_readSecret_80 (by decide) ?_
      refine lv_istore (lv' := [(4, .int (nI 0)), (3, .int (nI pz21)), (0, .ref h0), (1, .ref st), (2, .ref sk)]) hx hb dDA_readSecret_81 hl (by decide) rfl (fun ls hl => ?_)
      have lp22 : ∀ (n22 : Nat) (i22 : Nat) (pz22 : Nat) (s23 : Sto) (pl : va_W) (ls : Array Slot) (H : Heap) (locs : List Loc), n22 + i22 = 6 → (pz22 = 768 + 128 * i22) → frm (M_DA_readSecret_1) s s23 → F_DA_readSecret_1 psk s = F_DA_readSecret_1_L1 psk n22 i22 pz22 s23 → lv_has ls 5 [(4, .int (nI i22)), (3, .int (nI pz22)), (0, .ref h0), (1, .ref st), (2, .ref sk)] → okn g T s23 pl → va_P g.1 vcl ([] ++ pl) H → va_D A ([] ++ pl) → va_S A s0.heap H locs → W p l e ({ frames := 5, cells := 0, slots := 0, locals := 152 } : Room) s0 m args below meth c H locs 0 0 (MQ below (va_Qv (fun (u : (Sto) × va_W) => (u.1 = F_DA_readSecret_1 psk s ∧ frm (M_DA_readSecret_1) s u.1 ∧ True) ∧ okn g T u.1 u.2) (po g.1 vcl A (fun (u : (Sto) × va_W) => [] ++ u.2)) A) args s0 0 0 A) (F0 m 83 ls []) := by
        intro n22
        induction n22 with
        | zero =>
          intro i22 pz22 s23 pl ls H locs hm22 hi22 hF hR hl hO hP hD hS
          refine lv_iload hx hb dDA_readSecret_83 (lv_at hl 0 rfl) ?_
          refine lv_aload_n hx hb dDA_readSecret_85 rfl (lv_at hl 3 rfl) ?_
          refine nw_get (C := "LatticeKeys$DsaSet") (TT := T_DS) (N := 17) hx hb hts (wg_ft i_DS) hown hK hO k_st (kn := 10) (ci := 2) (fl := [(1, 6), (1, 5), (1, 4), (1, 4), (1, 49), (1, 48), (1, 20), (1, 524288), (1, 16), (1, 4), (1, 261888), (1, 55), (1, 196), (1, 1952), (1, 4032), (1, 3248), (1, 3309)]) rfl hP rfl 0 (by decide) (hts _ (wg_t kw_302)) (fun _ h9 => h9) (cd := (1, 6)) rfl dDA_readSecret_86 (fun v24 hv24 => ?_)
          obtain rfl := (show v24 = .int (nI 6) from hv24)
          refine mi_ge (tgt := 143) hx hb dDA_readSecret_89 (by decide) (by omega) (by omega) (fun h22 => ?_) (fun h22 => absurd h22 (by omega))
          refine lv_iconst (v := nI 0) hx hb dDA_readSecret_143 (by decide) ?_
          refine lv_istore (lv' := [(4, .int (nI 0)), (3, .int (nI pz22)), (0, .ref h0), (1, .ref st), (2, .ref sk)]) hx hb dDA_readSecret_144 hl (by decide) rfl (fun ls hl => ?_)
          have lp23 : ∀ (n23 : Nat) (i23 : Nat) (pz23 : Nat) (s24 : Sto) (pl : va_W) (ls : Array Slot) (H : Heap) (locs : List Loc), n23 + i23 = 6 → (pz23 = 1536 + 416 * i23) → frm (M_DA_readSecret_1) s s24 → F_DA_readSecret_1 psk s = F_DA_readSecret_1_L2 psk n23 i23 pz23 s24 → lv_has ls 5 [(4, .int (nI i23)), (3, .int (nI pz23)), (0, .ref h0), (1, .ref st), (2, .ref sk)] → okn g T s24 pl → va_P g.1 vcl ([] ++ pl) H → va_D A ([] ++ pl) → va_S A s0.heap H locs → W p l e ({ frames := 5, cells := 0, slots := 0, locals := 152 } : Room) s0 m args below meth c H locs 0 0 (MQ below (va_Qv (fun (u : (Sto) × va_W) => (u.1 = F_DA_readSecret_1 psk s ∧ frm (M_DA_readSecret_1) s u.1 ∧ True) ∧ okn g T u.1 u.2) (po g.1 vcl A (fun (u : (Sto) × va_W) => [] ++ u.2)) A) args s0 0 0 A) (F0 m 146 ls []) := by
            intro n23
            induction n23 with
            | zero =>
              intro i23 pz23 s24 pl ls H locs hm23 hi23 hF hR hl hO hP hD hS
              refine lv_iload hx hb dDA_readSecret_146 (lv_at hl 0 rfl) ?_
              refine lv_aload_n hx hb dDA_readSecret_148 rfl (lv_at hl 3 rfl) ?_
              refine nw_get (C := "LatticeKeys$DsaSet") (TT := T_DS) (N := 17) hx hb hts (wg_ft i_DS) hown hK hO k_st (kn := 10) (ci := 2) (fl := [(1, 6), (1, 5), (1, 4), (1, 4), (1, 49), (1, 48), (1, 20), (1, 524288), (1, 16), (1, 4), (1, 261888), (1, 55), (1, 196), (1, 1952), (1, 4032), (1, 3248), (1, 3309)]) rfl hP rfl 0 (by decide) (hts _ (wg_t kw_302)) (fun _ h9 => h9) (cd := (1, 6)) rfl dDA_readSecret_149 (fun v25 hv25 => ?_)
              obtain rfl := (show v25 = .int (nI 6) from hv25)
              refine mi_ge (tgt := 199) hx hb dDA_readSecret_152 (by decide) (by omega) (by omega) (fun h23 => ?_) (fun h23 => absurd h23 (by omega))
              exact mp_vret hx hb hr hlk hP hD hS (s24, pl) ⟨⟨hR.symm, hF, trivial⟩, hO⟩ [] rfl rfl rfl (by omega) (by omega) dDA_readSecret_199
            | succ n23 ih23 =>
              intro i23 pz23 s24 pl ls H locs hm23 hi23 hF hR hl hO hP hD hS
              refine lv_iload hx hb dDA_readSecret_146 (lv_at hl 0 rfl) ?_
              refine lv_aload_n hx hb dDA_readSecret_148 rfl (lv_at hl 3 rfl) ?_
              refine nw_get (C := "LatticeKeys$DsaSet") (TT := T_DS) (N := 17) hx hb hts (wg_ft i_DS) hown hK hO k_st (kn := 10) (ci := 2) (fl := [(1, 6), (1, 5), (1, 4), (1, 4), (1, 49), (1, 48), (1, 20), (1, 524288), (1, 16), (1, 4), (1, 261888), (1, 55), (1, 196), (1, 1952), (1, 4032), (1, 3248), (1, 3309)]) rfl hP rfl 0 (by decide) (hts _ (wg_t kw_302)) (fun _ h9 => h9) (cd := (1, 6)) rfl dDA_readSecret_149 (fun v26 hv26 => ?_)
              obtain rfl := (show v26 = .int (nI 6) from hv26)
              refine mi_ge (tgt := 199) hx hb dDA_readSecret_152 (by decide) (by omega) (by omega) (fun h24 => absurd h24 (by omega)) (fun h24 => ?_)
              refine lv_aload_n hx hb dDA_readSecret_155 rfl (lv_at hl 2 rfl) ?_
              refine lv_aload_n hx hb dDA_readSecret_156 rfl (lv_at hl 2 rfl) ?_
              refine nw_get (C := "LatticeKeys$Dsa") (TT := T_DA) (N := 17) hx hb hts (wg_ft i_DA) hown hK hO k_h0 (kn := 39) (ci := 6) (fl := [(3, 16), (3, 22), (3, 37), (3, 40), (3, 97), (3, 105), (3, 114), (3, 123), (3, 131), (3, 140), (3, 141), (3, 142), (3, 143), (3, 144), (3, 145), (3, 146), (3, 147)]) rfl hP rfl 6 (by decide) (hts _ (wg_t kw_171)) (fun _ h9 => h9) (cd := (3, 114)) rfl dDA_readSecret_157 (fun v27 hv27 => ?_)
              obtain ⟨r23, rfl, kr23⟩ := (show ∃ r : Nat, v27 = .ref r ∧ T r = some 114 from hv27)
              refine lv_iload hx hb dDA_readSecret_160 (lv_at hl 0 rfl) ?_
              refine nw_aald3 hx hb hK hO kr23 (k := 114) (b := 115) rfl hP (by omega) (by omega) dDA_readSecret_162 (fun r24 kr24 => ?_)
              have hn21 : nsp (115 + i23) = (0, 256, []) := rows_ok 115 8 (by decide) _ (by omega)
              refine lv_bipush (v := nI 13) hx hb dDA_readSecret_163 (by decide) ?_
              refine lv_sipush (v := nI 4096) hx hb dDA_readSecret_165 (by decide) ?_
              refine lv_aload_n hx hb dDA_readSecret_168 rfl (lv_at hl 4 rfl) ?_
              refine lv_iload_n hx hb dDA_readSecret_169 rfl (lv_at hl 1 rfl) ?_
              refine mp_v (cx := []) (wr := []) hP hD hS hA [] [] rfl rfl rfl (by decide) (va_runV (As := [.ref r24, .int (nI 13), .int (nI 4096), .ref sk, .int (nI pz23)]) (rest := []) F (N_DA_readFlipped l g _ T s24 pl hO hU h0 r24 sk (115 + i23) 13 (nI 4096) psk 4032 pz23 k_h0 kr24 hn21 k_sk n_sk (by omega) (by omega) (by omega)) (cwV 5 hts (wg_app (wg_c kw_1183 (wg_c kw_1185 (wg_c ks_35 (wg_c kw_5 wg_n)))) kw_1186) rfl rfl rfl (by decide +kernel) ⟨by decide, by decide⟩) (pn_W "LatticeKeys$Dsa" (en_ok g) (ci := 6) (kn := 39) (fl := [(3, 16), (3, 22), (3, 37), (3, 40), (3, 97), (3, 105), (3, 114), (3, 123), (3, 131), (3, 140), (3, 141), (3, 142), (3, 143), (3, 144), (3, 145), (3, 146), (3, 147)]) hK hO k_h0 rfl hP hD hS hA hE [] rfl rfl rfl) rfl rfl hl.1 rfl (lv_room (Nat.le_of_ble_eq_true rfl)) dDA_readSecret_170 ⟨by omega, by omega⟩) (fun  u22 H locs hu22 hP hD hS => ?_)
              obtain ⟨s25, pl⟩ := u22
              obtain ⟨⟨eq22, hFc22, -⟩, hO⟩ := hu22
              have hO : okn g T s25 pl := hO
              have hP : va_P g.1 vcl ([] ++ pl) _ := hP
              have hD : va_D _ ([] ++ pl) := hD
              have hFc22 : frm (M_DA_readFlipped (115 + i23)) s24 s25 := hFc22
              replace hR := bnd_step hR eq22
              have hF := frm_tr hF hFc22 (fun k hk => by unfold M_DA_readFlipped at hk; unfold M_DA_readSecret_1; omega)
              refine W.widen (k := 0) (n := 0) (by omega) (by omega) ?_
              refine lv_aload_n hx hb dDA_readSecret_173 rfl (lv_at hl 2 rfl) ?_
              refine nw_get (C := "LatticeKeys$Dsa") (TT := T_DA) (N := 17) hx hb hts (wg_ft i_DA) hown hK hO k_h0 (kn := 39) (ci := 6) (fl := [(3, 16), (3, 22), (3, 37), (3, 40), (3, 97), (3, 105), (3, 114), (3, 123), (3, 131), (3, 140), (3, 141), (3, 142), (3, 143), (3, 144), (3, 145), (3, 146), (3, 147)]) rfl hP rfl 1 (by decide) (hts _ (wg_t kw_166)) (fun _ h9 => h9) (cd := (3, 22)) rfl dDA_readSecret_174 (fun v28 hv28 => ?_)
              obtain ⟨r25, rfl, kr25⟩ := (show ∃ r : Nat, v28 = .ref r ∧ T r = some 22 from hv28)
              refine lv_aload_n hx hb dDA_readSecret_177 rfl (lv_at hl 2 rfl) ?_
              refine nw_get (C := "LatticeKeys$Dsa") (TT := T_DA) (N := 17) hx hb hts (wg_ft i_DA) hown hK hO k_h0 (kn := 39) (ci := 6) (fl := [(3, 16), (3, 22), (3, 37), (3, 40), (3, 97), (3, 105), (3, 114), (3, 123), (3, 131), (3, 140), (3, 141), (3, 142), (3, 143), (3, 144), (3, 145), (3, 146), (3, 147)]) rfl hP rfl 6 (by decide) (hts _ (wg_t kw_171)) (fun _ h9 => h9) (cd := (3, 114)) rfl dDA_readSecret_178 (fun v29 hv29 => ?_)
              obtain ⟨r26, rfl, kr26⟩ := (show ∃ r : Nat, v29 = .ref r ∧ T r = some 114 from hv29)
              refine lv_iload hx hb dDA_readSecret_181 (lv_at hl 0 rfl) ?_
              refine nw_aald3 hx hb hK hO kr26 (k := 114) (b := 115) rfl hP (by omega) (by omega) dDA_readSecret_183 (fun r27 kr27 => ?_)
              have hn22 : nsp (115 + i23) = (0, 256, []) := rows_ok 115 8 (by decide) _ (by omega)
              refine mp_v (cx := []) (wr := []) hP hD hS hA [] [] rfl rfl rfl (by decide) (va_runV (As := [.ref r27]) (rest := []) F (N_RG_transform_8 l g _ T s25 pl hO hU r25 r27 (115 + i23) kr25 kr27 hn22) (cwV 1 hts (wg_app (wg_c kw_711 (wg_c kw_637 (wg_c kw_638 (wg_c kw_4 wg_n)))) kw_639) rfl rfl rfl (by decide +kernel) ⟨by decide, by decide⟩) (pn_W "LatticeKeys$Ring" (en_ok g) (ci := 4) (kn := 22) (fl := [(1, 8380417), (1, 8), (1, 8347681), (3, 23)]) hK hO kr25 rfl hP hD hS hA hE [] rfl rfl rfl) rfl rfl hl.1 rfl (lv_room (Nat.le_of_ble_eq_true rfl)) dDA_readSecret_184 ⟨by omega, by omega⟩) (fun  u23 H locs hu23 hP hD hS => ?_)
              obtain ⟨s26, pl⟩ := u23
              obtain ⟨⟨eq23, hFc23, -⟩, hO⟩ := hu23
              have hO : okn g T s26 pl := hO
              have hP : va_P g.1 vcl ([] ++ pl) _ := hP
              have hD : va_D _ ([] ++ pl) := hD
              have hFc23 : frm (M_RG_transform_8 (115 + i23)) s25 s26 := hFc23
              replace hR := bnd_step hR eq23
              have hF := frm_tr hF hFc23 (fun k hk => by unfold M_RG_transform_8 at hk; unfold M_DA_readSecret_1; omega)
              refine W.widen (k := 0) (n := 0) (by omega) (by omega) ?_
              refine mi_iincW (k := 1) (x := pz23) (d := 416) (y := pz23 + 416) (lv' := [(3, .int (nI (pz23 + 416))), (4, .int (nI i23)), (0, .ref h0), (1, .ref st), (2, .ref sk)]) hx hb dDA_readSecret_187 hl rfl (by decide) rfl (by decide) rfl (fun ls hl => ?_)
              refine mi_iinc (k := 1) (x := i23) (d := 1) (y := i23 + 1) (lv' := [(4, .int (nI (i23 + 1))), (3, .int (nI (pz23 + 416))), (0, .ref h0), (1, .ref st), (2, .ref sk)]) hx hb dDA_readSecret_193 hl rfl (by decide) rfl (by decide) rfl (fun ls hl => ?_)
              refine lv_goto (tgt := 146) hx hb dDA_readSecret_196 (by decide) ?_
              exact ih23 (i23 + 1) (pz23 + 416) s26 pl ls H locs (by omega) (by omega) hF hR (lv_sub hl [0, 1, 2, 3, 4] rfl) hO hP hD hS
          exact lp23 6 0 pz22 s23 pl ls _ _ (by omega) (by omega) hF hR (lv_sub hl [0, 1, 2, 3, 4] rfl) hO hP hD hS
        | succ n22 ih22 =>
          intro i22 pz22 s23 pl ls H locs hm22 hi22 hF hR hl hO hP hD hS
          refine lv_iload hx hb dDA_readSecret_83 (lv_at hl 0 rfl) ?_
          refine lv_aload_n hx hb dDA_readSecret_85 rfl (lv_at hl 3 rfl) ?_
          refine nw_get (C := "LatticeKeys$DsaSet") (TT := T_DS) (N := 17) hx hb hts (wg_ft i_DS) hown hK hO k_st (kn := 10) (ci := 2) (fl := [(1, 6), (1, 5), (1, 4), (1, 4), (1, 49), (1, 48), (1, 20), (1, 524288), (1, 16), (1, 4), (1, 261888), (1, 55), (1, 196), (1, 1952), (1, 4032), (1, 3248), (1, 3309)]) rfl hP rfl 0 (by decide) (hts _ (wg_t kw_302)) (fun _ h9 => h9) (cd := (1, 6)) rfl dDA_readSecret_86 (fun v30 hv30 => ?_)
          obtain rfl := (show v30 = .int (nI 6) from hv30)
          refine mi_ge (tgt := 143) hx hb dDA_readSecret_89 (by decide) (by omega) (by omega) (fun h25 => absurd h25 (by omega)) (fun h25 => ?_)
          refine lv_aload_n hx hb dDA_readSecret_92 rfl (lv_at hl 2 rfl) ?_
          refine lv_aload_n hx hb dDA_readSecret_93 rfl (lv_at hl 2 rfl) ?_
          refine nw_get (C := "LatticeKeys$Dsa") (TT := T_DA) (N := 17) hx hb hts (wg_ft i_DA) hown hK hO k_h0 (kn := 39) (ci := 6) (fl := [(3, 16), (3, 22), (3, 37), (3, 40), (3, 97), (3, 105), (3, 114), (3, 123), (3, 131), (3, 140), (3, 141), (3, 142), (3, 143), (3, 144), (3, 145), (3, 146), (3, 147)]) rfl hP rfl 5 (by decide) (hts _ (wg_t kw_170)) (fun _ h9 => h9) (cd := (3, 105)) rfl dDA_readSecret_94 (fun v31 hv31 => ?_)
          obtain ⟨r28, rfl, kr28⟩ := (show ∃ r : Nat, v31 = .ref r ∧ T r = some 105 from hv31)
          refine lv_iload hx hb dDA_readSecret_97 (lv_at hl 0 rfl) ?_
          refine nw_aald3 hx hb hK hO kr28 (k := 105) (b := 106) rfl hP (by omega) (by omega) dDA_readSecret_99 (fun r29 kr29 => ?_)
          have hn23 : nsp (106 + i22) = (0, 256, []) := rows_ok 106 8 (by decide) _ (by omega)
          refine lv_aload_n hx hb dDA_readSecret_100 rfl (lv_at hl 3 rfl) ?_
          refine nw_get (C := "LatticeKeys$DsaSet") (TT := T_DS) (N := 17) hx hb hts (wg_ft i_DS) hown hK hO k_st (kn := 10) (ci := 2) (fl := [(1, 6), (1, 5), (1, 4), (1, 4), (1, 49), (1, 48), (1, 20), (1, 524288), (1, 16), (1, 4), (1, 261888), (1, 55), (1, 196), (1, 1952), (1, 4032), (1, 3248), (1, 3309)]) rfl hP rfl 3 (by decide) (hts _ (wg_t kw_310)) (fun _ h9 => h9) (cd := (1, 4)) rfl dDA_readSecret_101 (fun v32 hv32 => ?_)
          obtain rfl := (show v32 = .int (nI 4) from hv32)
          refine lv_aload_n hx hb dDA_readSecret_104 rfl (lv_at hl 3 rfl) ?_
          refine nw_get (C := "LatticeKeys$DsaSet") (TT := T_DS) (N := 17) hx hb hts (wg_ft i_DS) hown hK hO k_st (kn := 10) (ci := 2) (fl := [(1, 6), (1, 5), (1, 4), (1, 4), (1, 49), (1, 48), (1, 20), (1, 524288), (1, 16), (1, 4), (1, 261888), (1, 55), (1, 196), (1, 1952), (1, 4032), (1, 3248), (1, 3309)]) rfl hP rfl 2 (by decide) (hts _ (wg_t kw_307)) (fun _ h9 => h9) (cd := (1, 4)) rfl dDA_readSecret_105 (fun v33 hv33 => ?_)
          obtain rfl := (show v33 = .int (nI 4) from hv33)
          refine lv_aload_n hx hb dDA_readSecret_108 rfl (lv_at hl 4 rfl) ?_
          refine lv_iload_n hx hb dDA_readSecret_109 rfl (lv_at hl 1 rfl) ?_
          refine mp_v (cx := []) (wr := []) hP hD hS hA [] [] rfl rfl rfl (by decide) (va_runV (As := [.ref r29, .int (nI 4), .int (nI 4), .ref sk, .int (nI pz22)]) (rest := []) F (N_DA_readFlipped l g _ T s23 pl hO hU h0 r29 sk (106 + i22) 4 (nI 4) psk 4032 pz22 k_h0 kr29 hn23 k_sk n_sk (by omega) (by omega) (by omega)) (cwV 5 hts (wg_app (wg_c kw_1183 (wg_c kw_1185 (wg_c ks_35 (wg_c kw_5 wg_n)))) kw_1186) rfl rfl rfl (by decide +kernel) ⟨by decide, by decide⟩) (pn_W "LatticeKeys$Dsa" (en_ok g) (ci := 6) (kn := 39) (fl := [(3, 16), (3, 22), (3, 37), (3, 40), (3, 97), (3, 105), (3, 114), (3, 123), (3, 131), (3, 140), (3, 141), (3, 142), (3, 143), (3, 144), (3, 145), (3, 146), (3, 147)]) hK hO k_h0 rfl hP hD hS hA hE [] rfl rfl rfl) rfl rfl hl.1 rfl (lv_room (Nat.le_of_ble_eq_true rfl)) dDA_readSecret_110 ⟨by omega, by omega⟩) (fun  u24 H locs hu24 hP hD hS => ?_)
          obtain ⟨s27, pl⟩ := u24
          obtain ⟨⟨eq24, hFc24, -⟩, hO⟩ := hu24
          have hO : okn g T s27 pl := hO
          have hP : va_P g.1 vcl ([] ++ pl) _ := hP
          have hD : va_D _ ([] ++ pl) := hD
          have hFc24 : frm (M_DA_readFlipped (106 + i22)) s23 s27 := hFc24
          replace hR := bnd_step hR eq24
          have hF := frm_tr hF hFc24 (fun k hk => by unfold M_DA_readFlipped at hk; unfold M_DA_readSecret_1; omega)
          refine W.widen (k := 0) (n := 0) (by omega) (by omega) ?_
          refine lv_aload_n hx hb dDA_readSecret_113 rfl (lv_at hl 2 rfl) ?_
          refine nw_get (C := "LatticeKeys$Dsa") (TT := T_DA) (N := 17) hx hb hts (wg_ft i_DA) hown hK hO k_h0 (kn := 39) (ci := 6) (fl := [(3, 16), (3, 22), (3, 37), (3, 40), (3, 97), (3, 105), (3, 114), (3, 123), (3, 131), (3, 140), (3, 141), (3, 142), (3, 143), (3, 144), (3, 145), (3, 146), (3, 147)]) rfl hP rfl 1 (by decide) (hts _ (wg_t kw_166)) (fun _ h9 => h9) (cd := (3, 22)) rfl dDA_readSecret_114 (fun v34 hv34 => ?_)
          obtain ⟨r30, rfl, kr30⟩ := (show ∃ r : Nat, v34 = .ref r ∧ T r = some 22 from hv34)
          refine lv_aload_n hx hb dDA_readSecret_117 rfl (lv_at hl 2 rfl) ?_
          refine nw_get (C := "LatticeKeys$Dsa") (TT := T_DA) (N := 17) hx hb hts (wg_ft i_DA) hown hK hO k_h0 (kn := 39) (ci := 6) (fl := [(3, 16), (3, 22), (3, 37), (3, 40), (3, 97), (3, 105), (3, 114), (3, 123), (3, 131), (3, 140), (3, 141), (3, 142), (3, 143), (3, 144), (3, 145), (3, 146), (3, 147)]) rfl hP rfl 5 (by decide) (hts _ (wg_t kw_170)) (fun _ h9 => h9) (cd := (3, 105)) rfl dDA_readSecret_118 (fun v35 hv35 => ?_)
          obtain ⟨r31, rfl, kr31⟩ := (show ∃ r : Nat, v35 = .ref r ∧ T r = some 105 from hv35)
          refine lv_iload hx hb dDA_readSecret_121 (lv_at hl 0 rfl) ?_
          refine nw_aald3 hx hb hK hO kr31 (k := 105) (b := 106) rfl hP (by omega) (by omega) dDA_readSecret_123 (fun r32 kr32 => ?_)
          have hn24 : nsp (106 + i22) = (0, 256, []) := rows_ok 106 8 (by decide) _ (by omega)
          refine mp_v (cx := []) (wr := []) hP hD hS hA [] [] rfl rfl rfl (by decide) (va_runV (As := [.ref r32]) (rest := []) F (N_RG_transform_8 l g _ T s27 pl hO hU r30 r32 (106 + i22) kr30 kr32 hn24) (cwV 1 hts (wg_app (wg_c kw_711 (wg_c kw_637 (wg_c kw_638 (wg_c kw_4 wg_n)))) kw_639) rfl rfl rfl (by decide +kernel) ⟨by decide, by decide⟩) (pn_W "LatticeKeys$Ring" (en_ok g) (ci := 4) (kn := 22) (fl := [(1, 8380417), (1, 8), (1, 8347681), (3, 23)]) hK hO kr30 rfl hP hD hS hA hE [] rfl rfl rfl) rfl rfl hl.1 rfl (lv_room (Nat.le_of_ble_eq_true rfl)) dDA_readSecret_124 ⟨by omega, by omega⟩) (fun  u25 H locs hu25 hP hD hS => ?_)
          obtain ⟨s28, pl⟩ := u25
          obtain ⟨⟨eq25, hFc25, -⟩, hO⟩ := hu25
          have hO : okn g T s28 pl := hO
          have hP : va_P g.1 vcl ([] ++ pl) _ := hP
          have hD : va_D _ ([] ++ pl) := hD
          have hFc25 : frm (M_RG_transform_8 (106 + i22)) s27 s28 := hFc25
          replace hR := bnd_step hR eq25
          have hF := frm_tr hF hFc25 (fun k hk => by unfold M_RG_transform_8 at hk; unfold M_DA_readSecret_1; omega)
          refine W.widen (k := 0) (n := 0) (by omega) (by omega) ?_
          refine lv_iload_n hx hb dDA_readSecret_127 rfl (lv_at hl 1 rfl) ?_
          refine lv_bipush (v := nI 32) hx hb dDA_readSecret_128 (by decide) ?_
          refine lv_aload_n hx hb dDA_readSecret_130 rfl (lv_at hl 3 rfl) ?_
          refine nw_get (C := "LatticeKeys$DsaSet") (TT := T_DS) (N := 17) hx hb hts (wg_ft i_DS) hown hK hO k_st (kn := 10) (ci := 2) (fl := [(1, 6), (1, 5), (1, 4), (1, 4), (1, 49), (1, 48), (1, 20), (1, 524288), (1, 16), (1, 4), (1, 261888), (1, 55), (1, 196), (1, 1952), (1, 4032), (1, 3248), (1, 3309)]) rfl hP rfl 3 (by decide) (hts _ (wg_t kw_310)) (fun _ h9 => h9) (cd := (1, 4)) rfl dDA_readSecret_131 (fun v36 hv36 => ?_)
          obtain rfl := (show v36 = .int (nI 4) from hv36)
          refine mi_imul hx hb dDA_readSecret_134 ?_
          refine mi_as (show nI (32 * 4) = nI 128 from rfl) ?_
          refine mi_iadd hx hb dDA_readSecret_135 ?_
          refine lv_istore_n (lv' := [(3, .int (nI (pz22 + 128))), (4, .int (nI i22)), (0, .ref h0), (1, .ref st), (2, .ref sk)]) hx hb dDA_readSecret_136 rfl hl (by decide) rfl (fun ls hl => ?_)
          refine mi_iinc (k := 1) (x := i22) (d := 1) (y := i22 + 1) (lv' := [(4, .int (nI (i22 + 1))), (3, .int (nI (pz22 + 128))), (0, .ref h0), (1, .ref st), (2, .ref sk)]) hx hb dDA_readSecret_137 hl rfl (by decide) rfl (by decide) rfl (fun ls hl => ?_)
          refine lv_goto (tgt := 83) hx hb dDA_readSecret_140 (by decide) ?_
          exact ih22 (i22 + 1) (pz22 + 128) s28 pl ls H locs (by omega) (by omega) hF hR (lv_sub hl [0, 1, 2, 3, 4] rfl) hO hP hD hS
      exact lp22 6 0 pz21 s22 pl ls _ _ (by omega) (by omega) hF hR (lv_sub hl [0, 1, 2, 3, 4] rfl) hO hP hD hS
    | succ n21 ih21 =>
      intro i21 pz21 s22 pl ls H locs hm21 hi21 hF hR hl hO hP hD hS
      refine lv_iload hx hb dDA_readSecret_20 (lv_at hl 0 rfl) ?_
      refine lv_aload_n hx hb dDA_readSecret_22 rfl (lv_at hl 3 rfl) ?_
      refine nw_get (C := "LatticeKeys$DsaSet") (TT := T_DS) (N := 17) hx hb hts (wg_ft i_DS) hown hK hO k_st (kn := 10) (ci := 2) (fl := [(1, 6), (1, 5), (1, 4), (1, 4), (1, 49), (1, 48), (1, 20), (1, 524288), (1, 16), (1, 4), (1, 261888), (1, 55), (1, 196), (1, 1952), (1, 4032), (1, 3248), (1, 3309)]) rfl hP rfl 1 (by decide) (hts _ (wg_t kw_305)) (fun _ h9 => h9) (cd := (1, 5)) rfl dDA_readSecret_23 (fun v37 hv37 => ?_)
      obtain rfl := (show v37 = .int (nI 5) from hv37)
      refine mi_ge (tgt := 80) hx hb dDA_readSecret_26 (by decide) (by omega) (by omega) (fun h26 => absurd h26 (by omega)) (fun h26 => ?_)
      refine lv_aload_n hx hb dDA_readSecret_29 rfl (lv_at hl 2 rfl) ?_
      refine lv_aload_n hx hb dDA_readSecret_30 rfl (lv_at hl 2 rfl) ?_
      refine nw_get (C := "LatticeKeys$Dsa") (TT := T_DA) (N := 17) hx hb hts (wg_ft i_DA) hown hK hO k_h0 (kn := 39) (ci := 6) (fl := [(3, 16), (3, 22), (3, 37), (3, 40), (3, 97), (3, 105), (3, 114), (3, 123), (3, 131), (3, 140), (3, 141), (3, 142), (3, 143), (3, 144), (3, 145), (3, 146), (3, 147)]) rfl hP rfl 4 (by decide) (hts _ (wg_t kw_169)) (fun _ h9 => h9) (cd := (3, 97)) rfl dDA_readSecret_31 (fun v38 hv38 => ?_)
      obtain ⟨r33, rfl, kr33⟩ := (show ∃ r : Nat, v38 = .ref r ∧ T r = some 97 from hv38)
      refine lv_iload hx hb dDA_readSecret_34 (lv_at hl 0 rfl) ?_
      refine nw_aald3 hx hb hK hO kr33 (k := 97) (b := 98) rfl hP (by omega) (by omega) dDA_readSecret_36 (fun r34 kr34 => ?_)
      have hn25 : nsp (98 + i21) = (0, 256, []) := rows_ok 98 7 (by decide) _ (by omega)
      refine lv_aload_n hx hb dDA_readSecret_37 rfl (lv_at hl 3 rfl) ?_
      refine nw_get (C := "LatticeKeys$DsaSet") (TT := T_DS) (N := 17) hx hb hts (wg_ft i_DS) hown hK hO k_st (kn := 10) (ci := 2) (fl := [(1, 6), (1, 5), (1, 4), (1, 4), (1, 49), (1, 48), (1, 20), (1, 524288), (1, 16), (1, 4), (1, 261888), (1, 55), (1, 196), (1, 1952), (1, 4032), (1, 3248), (1, 3309)]) rfl hP rfl 3 (by decide) (hts _ (wg_t kw_310)) (fun _ h9 => h9) (cd := (1, 4)) rfl dDA_readSecret_38 (fun v39 hv39 => ?_)
      obtain rfl := (show v39 = .int (nI 4) from hv39)
      refine lv_aload_n hx hb dDA_readSecret_41 rfl (lv_at hl 3 rfl) ?_
      refine nw_get (C := "LatticeKeys$DsaSet") (TT := T_DS) (N := 17) hx hb hts (wg_ft i_DS) hown hK hO k_st (kn := 10) (ci := 2) (fl := [(1, 6), (1, 5), (1, 4), (1, 4), (1, 49), (1, 48), (1, 20), (1, 524288), (1, 16), (1, 4), (1, 261888), (1, 55), (1, 196), (1, 1952), (1, 4032), (1, 3248), (1, 3309)]) rfl hP rfl 2 (by decide) (hts _ (wg_t kw_307)) (fun _ h9 => h9) (cd := (1, 4)) rfl dDA_readSecret_42 (fun v40 hv40 => ?_)
      obtain rfl := (show v40 = .int (nI 4) from hv40)
      refine lv_aload_n hx hb dDA_readSecret_45 rfl (lv_at hl 4 rfl) ?_
      refine lv_iload_n hx hb dDA_readSecret_46 rfl (lv_at hl 1 rfl) ?_
      refine mp_v (cx := []) (wr := []) hP hD hS hA [] [] rfl rfl rfl (by decide) (va_runV (As := [.ref r34, .int (nI 4), .int (nI 4), .ref sk, .int (nI pz21)]) (rest := []) F (N_DA_readFlipped l g _ T s22 pl hO hU h0 r34 sk (98 + i21) 4 (nI 4) psk 4032 pz21 k_h0 kr34 hn25 k_sk n_sk (by omega) (by omega) (by omega)) (cwV 5 hts (wg_app (wg_c kw_1183 (wg_c kw_1185 (wg_c ks_35 (wg_c kw_5 wg_n)))) kw_1186) rfl rfl rfl (by decide +kernel) ⟨by decide, by decide⟩) (pn_W "LatticeKeys$Dsa" (en_ok g) (ci := 6) (kn := 39) (fl := [(3, 16), (3, 22), (3, 37), (3, 40), (3, 97), (3, 105), (3, 114), (3, 123), (3, 131), (3, 140), (3, 141), (3, 142), (3, 143), (3, 144), (3, 145), (3, 146), (3, 147)]) hK hO k_h0 rfl hP hD hS hA hE [] rfl rfl rfl) rfl rfl hl.1 rfl (lv_room (Nat.le_of_ble_eq_true rfl)) dDA_readSecret_47 ⟨by omega, by omega⟩) (fun  u26 H locs hu26 hP hD hS => ?_)
      obtain ⟨s29, pl⟩ := u26
      obtain ⟨⟨eq26, hFc26, -⟩, hO⟩ := hu26
      have hO : okn g T s29 pl := hO
      have hP : va_P g.1 vcl ([] ++ pl) _ := hP
      have hD : va_D _ ([] ++ pl) := hD
      have hFc26 : frm (M_DA_readFlipped (98 + i21)) s22 s29 := hFc26
      replace hR := bnd_step hR eq26
      have hF := frm_tr hF hFc26 (fun k hk => by unfold M_DA_readFlipped at hk; unfold M_DA_readSecret_1; omega)
      refine W.widen (k := 0) (n := 0) (by omega) (by omega) ?_
      refine lv_aload_n hx hb dDA_readSecret_50 rfl (lv_at hl 2 rfl) ?_
      refine nw_get (C := "LatticeKeys$Dsa") (TT := T_DA) (N := 17) hx hb hts (wg_ft i_DA) hown hK hO k_h0 (kn := 39) (ci := 6) (fl := [(3, 16), (3, 22), (3, 37), (3, 40), (3, 97), (3, 105), (3, 114), (3, 123), (3, 131), (3, 140), (3, 141), (3, 142), (3, 143), (3, 144), (3, 145), (3, 146), (3, 147)]) rfl hP rfl 1 (by decide) (hts _ (wg_t kw_166)) (fun _ h9 => h9) (cd := (3, 22)) rfl dDA_readSecret_51 (fun v41 hv41 => ?_)
      obtain ⟨r35, rfl, kr35⟩ := (show ∃ r : Nat, v41 = .ref r ∧ T r = some 22 from hv41)
      refine lv_aload_n hx hb dDA_readSecret_54 rfl (lv_at hl 2 rfl) ?_
      refine nw_get (C := "LatticeKeys$Dsa") (TT := T_DA) (N := 17) hx hb hts (wg_ft i_DA) hown hK hO k_h0 (kn := 39) (ci := 6) (fl := [(3, 16), (3, 22), (3, 37), (3, 40), (3, 97), (3, 105), (3, 114), (3, 123), (3, 131), (3, 140), (3, 141), (3, 142), (3, 143), (3, 144), (3, 145), (3, 146), (3, 147)]) rfl hP rfl 4 (by decide) (hts _ (wg_t kw_169)) (fun _ h9 => h9) (cd := (3, 97)) rfl dDA_readSecret_55 (fun v42 hv42 => ?_)
      obtain ⟨r36, rfl, kr36⟩ := (show ∃ r : Nat, v42 = .ref r ∧ T r = some 97 from hv42)
      refine lv_iload hx hb dDA_readSecret_58 (lv_at hl 0 rfl) ?_
      refine nw_aald3 hx hb hK hO kr36 (k := 97) (b := 98) rfl hP (by omega) (by omega) dDA_readSecret_60 (fun r37 kr37 => ?_)
      have hn26 : nsp (98 + i21) = (0, 256, []) := rows_ok 98 7 (by decide) _ (by omega)
      refine mp_v (cx := []) (wr := []) hP hD hS hA [] [] rfl rfl rfl (by decide) (va_runV (As := [.ref r37]) (rest := []) F (N_RG_transform_8 l g _ T s29 pl hO hU r35 r37 (98 + i21) kr35 kr37 hn26) (cwV 1 hts (wg_app (wg_c kw_711 (wg_c kw_637 (wg_c kw_638 (wg_c kw_4 wg_n)))) kw_639) rfl rfl rfl (by decide +kernel) ⟨by decide, by decide⟩) (pn_W "LatticeKeys$Ring" (en_ok g) (ci := 4) (kn := 22) (fl := [(1, 8380417), (1, 8), (1, 8347681), (3, 23)]) hK hO kr35 rfl hP hD hS hA hE [] rfl rfl rfl) rfl rfl hl.1 rfl (lv_room (Nat.le_of_ble_eq_true rfl)) dDA_readSecret_61 ⟨by omega, by omega⟩) (fun  u27 H locs hu27 hP hD hS => ?_)
      obtain ⟨s30, pl⟩ := u27
      obtain ⟨⟨eq27, hFc27, -⟩, hO⟩ := hu27
      have hO : okn g T s30 pl := hO
      have hP : va_P g.1 vcl ([] ++ pl) _ := hP
      have hD : va_D _ ([] ++ pl) := hD
      have hFc27 : frm (M_RG_transform_8 (98 + i21)) s29 s30 := hFc27
      replace hR := bnd_step hR eq27
      have hF := frm_tr hF hFc27 (fun k hk => by unfold M_RG_transform_8 at hk; unfold M_DA_readSecret_1; omega)
      refine W.widen (k := 0) (n := 0) (by omega) (by omega) ?_
      refine lv_iload_n hx hb dDA_readSecret_64 rfl (lv_at hl 1 rfl) ?_
      refine lv_bipush (v := nI 32) hx hb dDA_readSecret_65 (by decide) ?_
      refine lv_aload_n hx hb dDA_readSecret_67 rfl (lv_at hl 3 rfl) ?_
      refine nw_get (C := "LatticeKeys$DsaSet") (TT := T_DS) (N := 17) hx hb hts (wg_ft i_DS) hown hK hO k_st (kn := 10) (ci := 2) (fl := [(1, 6), (1, 5), (1, 4), (1, 4), (1, 49), (1, 48), (1, 20), (1, 524288), (1, 16), (1, 4), (1, 261888), (1, 55), (1, 196), (1, 1952), (1, 4032), (1, 3248), (1, 3309)]) rfl hP rfl 3 (by decide) (hts _ (wg_t kw_310)) (fun _ h9 => h9) (cd := (1, 4)) rfl dDA_readSecret_68 (fun v43 hv43 => ?_)
      obtain rfl := (show v43 = .int (nI 4) from hv43)
      refine mi_imul hx hb dDA_readSecret_71 ?_
      refine mi_as (show nI (32 * 4) = nI 128 from rfl) ?_
      refine mi_iadd hx hb dDA_readSecret_72 ?_
      refine lv_istore_n (lv' := [(3, .int (nI (pz21 + 128))), (4, .int (nI i21)), (0, .ref h0), (1, .ref st), (2, .ref sk)]) hx hb dDA_readSecret_73 rfl hl (by decide) rfl (fun ls hl => ?_)
      refine mi_iinc (k := 1) (x := i21) (d := 1) (y := i21 + 1) (lv' := [(4, .int (nI (i21 + 1))), (3, .int (nI (pz21 + 128))), (0, .ref h0), (1, .ref st), (2, .ref sk)]) hx hb dDA_readSecret_74 hl rfl (by decide) rfl (by decide) rfl (fun ls hl => ?_)
      refine lv_goto (tgt := 20) hx hb dDA_readSecret_77 (by decide) ?_
      exact ih21 (i21 + 1) (pz21 + 128) s30 pl ls H locs (by omega) (by omega) hF hR (lv_sub hl [0, 1, 2, 3, 4] rfl) hO hP hD hS
  exact lp21 5 0 128 s21 pl ls _ _ (by omega) (by omega) hF hR (lv_sub hl [0, 1, 2, 3, 4] rfl) hO hP hD hS
def M_DA_readSecret_2 (k : Nat) : Prop := (106 ≤ k ∧ k < 114) ∨ (115 ≤ k ∧ k < 123) ∨ (41 ≤ k ∧ k < 97) ∨ (98 ≤ k ∧ k < 105) ∨ k = 18 ∨ (0 : Nat) = 1
noncomputable def F_DA_readSecret_2_L2 (psk : Nat) : Nat → Nat → Nat → Sto → Sto
  | 0, i23, pz23, s24 => s24
  | n23 + 1, i23, pz23, s24 => bnd (F_DA_readFlipped (115 + i23) 13 (nI 4096) psk 4896 pz23 s24) fun s25 => bnd (F_RG_transform_8 (115 + i23) s25) fun s26 => F_DA_readSecret_2_L2 psk n23 (i23 + 1) (pz23 + 416) s26
noncomputable def F_DA_readSecret_2_L1 (psk : Nat) : Nat → Nat → Nat → Sto → Sto
  | 0, i22, pz22, s23 => F_DA_readSecret_2_L2 psk 8 0 pz22 s23
  | n22 + 1, i22, pz22, s23 => bnd (F_DA_readFlipped (106 + i22) 3 (nI 2) psk 4896 pz22 s23) fun s27 => bnd (F_RG_transform_8 (106 + i22) s27) fun s28 => F_DA_readSecret_2_L1 psk n22 (i22 + 1) (pz22 + 96) s28
noncomputable def F_DA_readSecret_2_L0 (psk : Nat) : Nat → Nat → Nat → Sto → Sto
  | 0, i21, pz21, s22 => F_DA_readSecret_2_L1 psk 8 0 pz21 s22
  | n21 + 1, i21, pz21, s22 => bnd (F_DA_readFlipped (98 + i21) 3 (nI 2) psk 4896 pz21 s22) fun s29 => bnd (F_RG_transform_8 (98 + i21) s29) fun s30 => F_DA_readSecret_2_L0 psk n21 (i21 + 1) (pz21 + 96) s30
noncomputable def F_DA_readSecret_2 (psk : Nat) (s : Sto) : Sto := bnd (F_SA_expandMatrix_2 psk 4896 s) fun s21 => F_DA_readSecret_2_L0 psk 7 0 128 s21
set_option maxHeartbeats 8000000 in
set_option maxRecDepth 100000 in
theorem N_DA_readSecret_2 (l : Launch) (g : Gd) (sz : Nat) (T : TyN) (s : Sto) (pl : va_W) (hO : okn g T s pl) (hU : inj T) (h0 st sk : Nat) (psk : Nat) (k_h0 : T h0 = some 39) (k_st : T st = some 11) (k_sk : T sk = some psk) (n_sk : nsp psk = (1, 4896, []))  : Met l y_DA_readSecret w_DA_readSecret ({ frames := 5, cells := 0, slots := 0, locals := 152 } : Room) (va_Pc [.ref h0, .ref st, .ref sk] (pr (en g) g.1 vcl sz ([] ++ pl))) (va_Qv (fun (u : (Sto) × va_W) => (u.1 = F_DA_readSecret_2 psk s ∧ frm (M_DA_readSecret_2) s u.1 ∧ True) ∧ okn g T u.1 u.2) (po g.1 vcl (va_A ([] ++ pl) sz) (fun (u : (Sto) × va_W) => [] ++ u.2)) (va_A ([] ++ pl) sz)) 0 0 (va_A ([] ++ pl) sz) := by
  refine mc_entry (cc := c_DA_readSecret) (maxL := 5) (ret := none) (by decide) rfl (Nat.le_of_ble_eq_true rfl) ?_
  intro p e s0 m args below meth c ls F hr hlk hnm hsz hP hD hE hA hl
  obtain ⟨hx, hb, hml, hown, hts⟩ := id F
  have hK := hE.1
  generalize va_A ([] ++ pl) sz = A at hD hE hA ⊢
  have hS : va_S A s0.heap s0.heap [] := va_S.rf
  have hl : lv_has ls 5 [(0, .ref h0), (1, .ref st), (2, .ref sk)] := hl
  have hR : F_DA_readSecret_2 psk s = F_DA_readSecret_2 psk s := rfl
  have hF : frm (M_DA_readSecret_2) s s := frm_rf
  refine lv_aload_n hx hb dDA_readSecret_0 rfl (lv_at hl 0 rfl) ?_
  refine nw_get (C := "LatticeKeys$Dsa") (TT := T_DA) (N := 17) hx hb hts (wg_ft i_DA) hown hK hO k_h0 (kn := 39) (ci := 6) (fl := [(3, 16), (3, 22), (3, 37), (3, 40), (3, 97), (3, 105), (3, 114), (3, 123), (3, 131), (3, 140), (3, 141), (3, 142), (3, 143), (3, 144), (3, 145), (3, 146), (3, 147)]) rfl hP rfl 2 (by decide) (hts _ (wg_t kw_167)) (fun _ h9 => h9) (cd := (3, 37)) rfl dDA_readSecret_1 (fun v21 hv21 => ?_)
  obtain ⟨r21, rfl, kr21⟩ := (show ∃ r : Nat, v21 = .ref r ∧ T r = some 37 from hv21)
  refine lv_aload_n hx hb dDA_readSecret_4 rfl (lv_at hl 1 rfl) ?_
  refine lv_aload_n hx hb dDA_readSecret_5 rfl (lv_at hl 2 rfl) ?_
  refine lv_aload_n hx hb dDA_readSecret_6 rfl (lv_at hl 0 rfl) ?_
  refine nw_get (C := "LatticeKeys$Dsa") (TT := T_DA) (N := 17) hx hb hts (wg_ft i_DA) hown hK hO k_h0 (kn := 39) (ci := 6) (fl := [(3, 16), (3, 22), (3, 37), (3, 40), (3, 97), (3, 105), (3, 114), (3, 123), (3, 131), (3, 140), (3, 141), (3, 142), (3, 143), (3, 144), (3, 145), (3, 146), (3, 147)]) rfl hP rfl 3 (by decide) (hts _ (wg_t kw_168)) (fun _ h9 => h9) (cd := (3, 40)) rfl dDA_readSecret_7 (fun v22 hv22 => ?_)
  obtain ⟨r22, rfl, kr22⟩ := (show ∃ r : Nat, v22 = .ref r ∧ T r = some 40 from hv22)
  refine mp_v (cx := []) (wr := []) hP hD hS hA [] [] rfl rfl rfl (by decide) (va_runV (As := [.ref st, .ref sk, .ref r22]) (rest := []) F (N_SA_expandMatrix_2 l g _ T s pl hO hU r21 st sk r22 psk 4896 kr21 k_st k_sk n_sk kr22 (by omega) (by omega)) (cwV 3 hts (wg_app (wg_c kw_703 (wg_c kw_704 (wg_c kw_705 (wg_c kw_6 wg_n)))) kw_706) rfl rfl rfl (by decide +kernel) ⟨by decide, by decide⟩) (pn_W "LatticeKeys$DsaSampler" (en_ok g) (ci := 7) (kn := 37) (fl := [(3, 18), (3, 38)]) hK hO kr21 rfl hP hD hS hA hE [] rfl rfl rfl) rfl rfl hl.1 rfl (lv_room (Nat.le_of_ble_eq_true rfl)) dDA_readSecret_10 ⟨by omega, by omega⟩) (fun  u21 H locs hu21 hP hD hS => ?_)
  obtain ⟨s21, pl⟩ := u21
  obtain ⟨⟨eq21, hFc21, -⟩, hO⟩ := hu21
  have hO : okn g T s21 pl := hO
  have hP : va_P g.1 vcl ([] ++ pl) _ := hP
  have hD : va_D _ ([] ++ pl) := hD
  have hFc21 : frm (M_SA_expandMatrix_2) s s21 := hFc21
  replace hR := bnd_step hR eq21
  have hF := frm_tr hF hFc21 (fun k hk => by unfold M_SA_expandMatrix_2 at hk; unfold M_DA_readSecret_2; omega)
  refine W.widen (k := 0) (n := 0) (by omega) (by omega) ?_
  refine lv_sipush (v := nI 128) hx hb dDA_readSecret_13 (by decide) ?_
  refine lv_istore_n (lv' := [(3, .int (nI 128)), (0, .ref h0), (1, .ref st), (2, .ref sk)]) hx hb dDA_readSecret_16 rfl hl (by decide) rfl (fun ls hl => ?_)
  refine lv_iconst (v := nI 0) hx hb dDA_readSecret_17 (by decide) ?_
  refine lv_istore (lv' := [(4, .int (nI 0)), (3, .int (nI 128)), (0, .ref h0), (1, .ref st), (2, .ref sk)]) hx hb dDA_readSecret_18 hl (by decide) rfl (fun ls hl => ?_)
  have lp21 : ∀ (n21 : Nat) (i21 : Nat) (pz21 : Nat) (s22 : Sto) (pl : va_W) (ls : Array Slot) (H : Heap) (locs : List Loc), n21 + i21 = 7 → (pz21 = 128 + 96 * i21) → frm (M_DA_readSecret_2) s s22 → F_DA_readSecret_2 psk s = F_DA_readSecret_2_L0 psk n21 i21 pz21 s22 → lv_has ls 5 [(4, .int (nI i21)), (3, .int (nI pz21)), (0, .ref h0), (1, .ref st), (2, .ref sk)] → okn g T s22 pl → va_P g.1 vcl ([] ++ pl) H → va_D A ([] ++ pl) → va_S A s0.heap H locs → W p l e ({ frames := 5, cells := 0, slots := 0, locals := 152 } : Room) s0 m args below meth c H locs 0 0 (MQ below (va_Qv (fun (u : (Sto) × va_W) => (u.1 = F_DA_readSecret_2 psk s ∧ frm (M_DA_readSecret_2) s u.1 ∧ True) ∧ okn g T u.1 u.2) (po g.1 vcl A (fun (u : (Sto) × va_W) => [] ++ u.2)) A) args s0 0 0 A) (F0 m 20 ls []) := by
    intro n21
    induction n21 with
    | zero =>
      intro i21 pz21 s22 pl ls H locs hm21 hi21 hF hR hl hO hP hD hS
      refine lv_iload hx hb dDA_readSecret_20 (lv_at hl 0 rfl) ?_
      refine lv_aload_n hx hb dDA_readSecret_22 rfl (lv_at hl 3 rfl) ?_
      refine nw_get (C := "LatticeKeys$DsaSet") (TT := T_DS) (N := 17) hx hb hts (wg_ft i_DS) hown hK hO k_st (kn := 11) (ci := 2) (fl := [(1, 8), (1, 7), (1, 2), (1, 3), (1, 60), (1, 64), (1, 20), (1, 524288), (1, 16), (1, 4), (1, 261888), (1, 75), (1, 120), (1, 2592), (1, 4896), (1, 4544), (1, 4627)]) rfl hP rfl 1 (by decide) (hts _ (wg_t kw_305)) (fun _ h9 => h9) (cd := (1, 7)) rfl dDA_readSecret_23 (fun v23 hv23 => ?_)
      obtain rfl := (show v23 = .int (nI 7) from hv23)
      refine mi_ge (tgt := 80) hx hb dDA_readSecret_26 (by decide) (by omega) (by omega) (fun h21 => ?_) (fun h21 => absurd h21 (by omega))
      refine lv_iconst (v := nI 0) hx hb dDA_readSecret_80 (by decide) ?_
      refine lv_istore (lv' := [(4, .int (nI 0)), (3, .int (nI pz21)), (0, .ref h0), (1, .ref st), (2, .ref sk)]) hx hb dDA_readSecret_81 hl (by decide) rfl (fun ls hl => ?_)
      have lp22 : ∀ (n22 : Nat) (i22 : Nat) (pz22 : Nat) (s23 : Sto) (pl : va_W) (ls : Array Slot) (H : Heap) (locs : List Loc), n22 + i22 = 8 → (pz22 = 800 + 96 * i22) → frm (M_DA_readSecret_2) s s23 → F_DA_readSecret_2 psk s = F_DA_readSecret_2_L1 psk n22 i22 pz22 s23 → lv_has ls 5 [(4, .int (nI i22)), (3, .int (nI pz22)), (0, .ref h0), (1, .ref st), (2, .ref sk)] → okn g T s23 pl → va_P g.1 vcl ([] ++ pl) H → va_D A ([] ++ pl) → va_S A s0.heap H locs → W p l e ({ frames := 5, cells := 0, slots := 0, locals := 152 } : Room) s0 m args below meth c H locs 0 0 (MQ below (va_Qv (fun (u : (Sto) × va_W) => (u.1 = F_DA_readSecret_2 psk s ∧ frm (M_DA_readSecret_2) s u.1 ∧ True) ∧ okn g T u.1 u.2) (po g.1 vcl A (fun (u : (Sto) × va_W) => [] ++ u.2)) A) args s0 0 0 A) (F0 m 83 ls []) := by
        intro n22
        induction n22 with
        | zero =>
          intro i22 pz22 s23 pl ls H locs hm22 hi22 hF hR hl hO hP hD hS
          refine lv_iload hx hb dDA_readSecret_83 (lv_at hl 0 rfl) ?_
          refine lv_aload_n hx hb dDA_readSecret_85 rfl (lv_at hl 3 rfl) ?_
          refine nw_get (C := "LatticeKeys$DsaSet") (TT := T_DS) (N := 17) hx hb hts (wg_ft i_DS) hown hK hO k_st (kn := 11) (ci := 2) (fl := [(1, 8), (1, 7), (1, 2), (1, 3), (1, 60), (1, 64), (1, 20), (1, 524288), (1, 16), (1, 4), (1, 261888), (1, 75), (1, 120), (1, 2592), (1, 4896), (1, 4544), (1, 4627)]) rfl hP rfl 0 (by decide) (hts _ (wg_t kw_302)) (fun _ h9 => h9) (cd := (1, 8)) rfl dDA_readSecret_86 (fun v24 hv24 => ?_)
          obtain rfl := (show v24 = .int (nI 8) from hv24)
          refine mi_ge (tgt := 143) hx hb dDA_readSecret_89 (by decide) (by omega) (by omega) (fun h22 => ?_) (fun h22 => absurd h22 (by omega))
          refine lv_iconst (v := nI 0) hx hb dDA_readSecret_143 (by decide) ?_
          refine lv_istore (lv' := [(4, .int (nI 0)), (3, .int (nI pz22)), (0, .ref h0), (1, .ref st), (2, .ref sk)]) hx hb dDA_readSecret_144 hl (by decide) rfl (fun ls hl => ?_)
          have lp23 : ∀ (n23 : Nat) (i23 : Nat) (pz23 : Nat) (s24 : Sto) (pl : va_W) (ls : Array Slot) (H : Heap) (locs : List Loc), n23 + i23 = 8 → (pz23 = 1568 + 416 * i23) → frm (M_DA_readSecret_2) s s24 → F_DA_readSecret_2 psk s = F_DA_readSecret_2_L2 psk n23 i23 pz23 s24 → lv_has ls 5 [(4, .int (nI i23)), (3, .int (nI pz23)), (0, .ref h0), (1, .ref st), (2, .ref sk)] → okn g T s24 pl → va_P g.1 vcl ([] ++ pl) H → va_D A ([] ++ pl) → va_S A s0.heap H locs → W p l e ({ frames := 5, cells := 0, slots := 0, locals := 152 } : Room) s0 m args below meth c H locs 0 0 (MQ below (va_Qv (fun (u : (Sto) × va_W) => (u.1 = F_DA_readSecret_2 psk s ∧ frm (M_DA_readSecret_2) s u.1 ∧ True) ∧ okn g T u.1 u.2) (po g.1 vcl A (fun (u : (Sto) × va_W) => [] ++ u.2)) A) args s0 0 0 A) (F0 m 146 ls []) := by
            intro n23
            induction n23 with
            | zero =>
              intro i23 pz23 s24 pl ls H locs hm23 hi23 hF hR hl hO hP hD hS
              refine lv_iload hx hb dDA_readSecret_146 (lv_at hl 0 rfl) ?_
              refine lv_aload_n hx hb dDA_readSecret_148 rfl (lv_at hl 3 rfl) ?_
              refine nw_get (C := "LatticeKeys$DsaSet") (TT := T_DS) (N := 17) hx hb hts (wg_ft i_DS) hown hK hO k_st (kn := 11) (ci := 2) (fl := [(1, 8), (1, 7), (1, 2), (1, 3), (1, 60), (1, 64), (1, 20), (1, 524288), (1, 16), (1, 4), (1, 261888), (1, 75), (1, 120), (1, 2592), (1, 4896), (1, 4544), (1, 4627)]) rfl hP rfl 0 (by decide) (hts _ (wg_t kw_302)) (fun _ h9 => h9) (cd := (1, 8)) rfl dDA_readSecret_149 (fun v25 hv25 => ?_)
              obtain rfl := (show v25 = .int (nI 8) from hv25)
              refine mi_ge (tgt := 199) hx hb dDA_readSecret_152 (by decide) (by omega) (by omega) (fun h23 => ?_) (fun h23 => absurd h23 (by omega))
              exact mp_vret hx hb hr hlk hP hD hS (s24, pl) ⟨⟨hR.symm, hF, trivial⟩, hO⟩ [] rfl rfl rfl (by omega) (by omega) dDA_readSecret_199
            | succ n23 ih23 =>
              intro i23 pz23 s24 pl ls H locs hm23 hi23 hF hR hl hO hP hD hS
              refine lv_iload hx hb dDA_readSecret_146 (lv_at hl 0 rfl) ?_
              refine lv_aload_n hx hb dDA_readSecret_148 rfl (lv_at hl 3 rfl) ?_
              refine nw_get (C := "LatticeKeys$DsaSet") (TT := T_DS) (N := 17) hx hb hts (wg_ft i_DS) hown hK hO k_st (kn := 11) (ci := 2) (fl := [(1, 8), (1, 7), (1, 2), (1, 3), (1, 60), (1, 64), (1, 20), (1, 524288), (1, 16), (1, 4), (1, 261888), (1, 75), (1, 120), (1, 2592), (1, 4896), (1, 4544), (1, 4627)]) rfl hP rfl 0 (by decide) (hts _ (wg_t kw_302)) (fun _ h9 => h9) (cd := (1, 8)) rfl dDA_readSecret_149 (fun v26 hv26 => ?_)
              obtain rfl := (show v26 = .int (nI 8) from hv26)
              refine mi_ge (tgt := 199) hx hb dDA_readSecret_152 (by decide) (by omega) (by omega) (fun h24 => absurd h24 (by omega)) (fun h24 => ?_)
              refine lv_aload_n hx hb dDA_readSecret_155 rfl (lv_at hl 2 rfl) ?_
              refine lv_aload_n hx hb dDA_readSecret_156 rfl (lv_at hl 2 rfl) ?_
              refine nw_get (C := "LatticeKeys$Dsa") (TT := T_DA) (N := 17) hx hb hts (wg_ft i_DA) hown hK hO k_h0 (kn := 39) (ci := 6) (fl := [(3, 16), (3, 22), (3, 37), (3, 40), (3, 97), (3, 105), (3, 114), (3, 123), (3, 131), (3, 140), (3, 141), (3, 142), (3, 143), (3, 144), (3, 145), (3, 146), (3, 147)]) rfl hP rfl 6 (by decide) (hts _ (wg_t kw_171)) (fun _ h9 => h9) (cd := (3, 114)) rfl dDA_readSecret_157 (fun v27 hv27 => ?_)
              obtain ⟨r23, rfl, kr23⟩ := (show ∃ r : Nat, v27 = .ref r ∧ T r = some 114 from hv27)
              refine lv_iload hx hb dDA_readSecret_160 (lv_at hl 0 rfl) ?_
              refine nw_aald3 hx hb hK hO kr23 (k := 114) (b := 115) rfl hP (by omega) (by omega) dDA_readSecret_162 (fun r24 kr24 => ?_)
              have hn21 : nsp (115 + i23) = (0, 256, []) := rows_ok 115 8 (by decide) _ (by omega)
              refine lv_bipush (v := nI 13) hx hb dDA_readSecret_163 (by decide) ?_
              refine lv_sipush (v := nI 4096) hx hb dDA_readSecret_165 (by decide) ?_
              refine lv_aload_n hx hb dDA_readSecret_168 rfl (lv_at hl 4 rfl) ?_
              refine lv_iload_n hx hb dDA_readSecret_169 rfl (lv_at hl 1 rfl) ?_
              refine mp_v (cx := []) (wr := []) hP hD hS hA [] [] rfl rfl rfl (by decide) (va_runV (As := [.ref r24, .int (nI 13), .int (nI 4096), .ref sk, .int (nI pz23)]) (rest := []) F (N_DA_readFlipped l g _ T s24 pl hO hU h0 r24 sk (115 + i23) 13 (nI 4096) psk 4896 pz23 k_h0 kr24 hn21 k_sk n_sk (by omega) (by omega) (by omega)) (cwV 5 hts (wg_app (wg_c kw_1183 (wg_c kw_1185 (wg_c ks_35 (wg_c kw_5 wg_n)))) kw_1186) rfl rfl rfl (by decide +kernel) ⟨by decide, by decide⟩) (pn_W "LatticeKeys$Dsa" (en_ok g) (ci := 6) (kn := 39) (fl := [(3, 16), (3, 22), (3, 37), (3, 40), (3, 97), (3, 105), (3, 114), (3, 123), (3, 131), (3, 140), (3, 141), (3, 142), (3, 143), (3, 144), (3, 145), (3, 146), (3, 147)]) hK hO k_h0 rfl hP hD hS hA hE [] rfl rfl rfl) rfl rfl hl.1 rfl (lv_room (Nat.le_of_ble_eq_true rfl)) dDA_readSecret_170 ⟨by omega, by omega⟩) (fun  u22 H locs hu22 hP hD hS => ?_)
              obtain ⟨s25, pl⟩ := u22
              obtain ⟨⟨eq22, hFc22, -⟩, hO⟩ := hu22
              have hO : okn g T s25 pl := hO
              have hP : va_P g.1 vcl ([] ++ pl) _ := hP
              have hD : va_D _ ([] ++ pl) := hD
              have hFc22 : frm (M_DA_readFlipped (115 + i23)) s24 s25 := hFc22
              replace hR := bnd_step hR eq22
              have hF := frm_tr hF hFc22 (fun k hk => by unfold M_DA_readFlipped at hk; unfold M_DA_readSecret_2; omega)
              refine W.widen (k := 0) (n := 0) (by omega) (by omega) ?_
              refine lv_aload_n hx hb dDA_readSecret_173 rfl (lv_at hl 2 rfl) ?_
              refine nw_get (C := "LatticeKeys$Dsa") (TT := T_DA) (N := 17) hx hb hts (wg_ft i_DA) hown hK hO k_h0 (kn := 39) (ci := 6) (fl := [(3, 16), (3, 22), (3, 37), (3, 40), (3, 97), (3, 105), (3, 114), (3, 123), (3, 131), (3, 140), (3, 141), (3, 142), (3, 143), (3, 144), (3, 145), (3, 146), (3, 147)]) rfl hP rfl 1 (by decide) (hts _ (wg_t kw_166)) (fun _ h9 => h9) (cd := (3, 22)) rfl dDA_readSecret_174 (fun v28 hv28 => ?_)
              obtain ⟨r25, rfl, kr25⟩ := (show ∃ r : Nat, v28 = .ref r ∧ T r = some 22 from hv28)
              refine lv_aload_n hx hb dDA_readSecret_177 rfl (lv_at hl 2 rfl) ?_
              refine nw_get (C := "LatticeKeys$Dsa") (TT := T_DA) (N := 17) hx hb hts (wg_ft i_DA) hown hK hO k_h0 (kn := 39) (ci := 6) (fl := [(3, 16), (3, 22), (3, 37), (3, 40), (3, 97), (3, 105), (3, 114), (3, 123), (3, 131), (3, 140), (3, 141), (3, 142), (3, 143), (3, 144), (3, 145), (3, 146), (3, 147)]) rfl hP rfl 6 (by decide) (hts _ (wg_t kw_171)) (fun _ h9 => h9) (cd := (3, 114)) rfl dDA_readSecret_178 (fun v29 hv29 => ?_)
              obtain ⟨r26, rfl, kr26⟩ := (show ∃ r : Nat, v29 = .ref r ∧ T r = some 114 from hv29)
              refine lv_iload hx hb dDA_readSecret_181 (lv_at hl 0 rfl) ?_
              refine nw_aald3 hx hb hK hO kr26 (k := 114) (b := 115) rfl hP (by omega) (by omega) dDA_readSecret_183 (fun r27 kr27 => ?_)
              have hn22 : nsp (115 + i23) = (0, 256, []) := rows_ok 115 8 (by decide) _ (by omega)
              refine mp_v (cx := []) (wr := []) hP hD hS hA [] [] rfl rfl rfl (by decide) (va_runV (As := [.ref r27]) (rest := []) F (N_RG_transform_8 l g _ T s25 pl hO hU r25 r27 (115 + i23) kr25 kr27 hn22) (cwV 1 hts (wg_app (wg_c kw_711 (wg_c kw_637 (wg_c kw_638 (wg_c kw_4 wg_n)))) kw_639) rfl rfl rfl (by decide +kernel) ⟨by decide, by decide⟩) (pn_W "LatticeKeys$Ring" (en_ok g) (ci := 4) (kn := 22) (fl := [(1, 8380417), (1, 8), (1, 8347681), (3, 23)]) hK hO kr25 rfl hP hD hS hA hE [] rfl rfl rfl) rfl rfl hl.1 rfl (lv_room (Nat.le_of_ble_eq_true rfl)) dDA_readSecret_184 ⟨by omega, by omega⟩) (fun  u23 H locs hu23 hP hD hS => ?_)
              obtain ⟨s26, pl⟩ := u23
              obtain ⟨⟨eq23, hFc23, -⟩, hO⟩ := hu23
              have hO : okn g T s26 pl := hO
              have hP : va_P g.1 vcl ([] ++ pl) _ := hP
              have hD : va_D _ ([] ++ pl) := hD
              have hFc23 : frm (M_RG_transform_8 (115 + i23)) s25 s26 := hFc23
              replace hR := bnd_step hR eq23
              have hF := frm_tr hF hFc23 (fun k hk => by unfold M_RG_transform_8 at hk; unfold M_DA_readSecret_2; omega)
              refine W.widen (k := 0) (n := 0) (by omega) (by omega) ?_
              refine mi_iincW (k := 1) (x := pz23) (d := 416) (y := pz23 + 416) (lv' := [(3, .int (nI (pz23 + 416))), (4, .int (nI i23)), (0, .ref h0), (1, .ref st), (2, .ref sk)]) hx hb dDA_readSecret_187 hl rfl (by decide) rfl (by decide) rfl (fun ls hl => ?_)
              refine mi_iinc (k := 1) (x := i23) (d := 1) (y := i23 + 1) (lv' := [(4, .int (nI (i23 + 1))), (3, .int (nI (pz23 + 416))), (0, .ref h0), (1, .ref st), (2, .ref sk)]) hx hb dDA_readSecret_193 hl rfl (by decide) rfl (by decide) rfl (fun ls hl => ?_)
              refine lv_goto (tgt := 146) hx hb dDA_readSecret_196 (by decide) ?_
              exact ih23 (i23 + 1) (pz23 + 416) s26 pl ls H locs (by omega) (by omega) hF hR (lv_sub hl [0, 1, 2, 3, 4] rfl) hO hP hD hS
          exact lp23 8 0 pz22 s23 pl ls _ _ (by omega) (by omega) hF hR (lv_sub hl [0, 1, 2, 3, 4] rfl) hO hP hD hS
        | succ n22 ih22 =>
          intro i22 pz22 s23 pl ls H locs hm22 hi22 hF hR hl hO hP hD hS
          refine lv_iload hx hb dDA_readSecret_83 (lv_at hl 0 rfl) ?_
          refine lv_aload_n hx hb dDA_readSecret_85 rfl (lv_at hl 3 rfl) ?_
          refine nw_get (C := "LatticeKeys$DsaSet") (TT := T_DS) (N := 17) hx hb hts (wg_ft i_DS) hown hK hO k_st (kn := 11) (ci := 2) (fl := [(1, 8), (1, 7), (1, 2), (1, 3), (1, 60), (1, 64), (1, 20), (1, 524288), (1, 16), (1, 4), (1, 261888), (1, 75), (1, 120), (1, 2592), (1, 4896), (1, 4544), (1, 4627)]) rfl hP rfl 0 (by decide) (hts _ (wg_t kw_302)) (fun _ h9 => h9) (cd := (1, 8)) rfl dDA_readSecret_86 (fun v30 hv30 => ?_)
          obtain rfl := (show v30 = .int (nI 8) from hv30)
          refine mi_ge (tgt := 143) hx hb dDA_readSecret_89 (by decide) (by omega) (by omega) (fun h25 => absurd h25 (by omega)) (fun h25 => ?_)
          refine lv_aload_n hx hb dDA_readSecret_92 rfl (lv_at hl 2 rfl) ?_
          refine lv_aload_n hx hb dDA_readSecret_93 rfl (lv_at hl 2 rfl) ?_
          refine nw_get (C := "LatticeKeys$Dsa") (TT := T_DA) (N := 17) hx hb hts (wg_ft i_DA) hown hK hO k_h0 (kn := 39) (ci := 6) (fl := [(3, 16), (3, 22), (3, 37), (3, 40), (3, 97), (3, 105), (3, 114), (3, 123), (3, 131), (3, 140), (3, 141), (3, 142), (3, 143), (3, 144), (3, 145), (3, 146), (3, 147)]) rfl hP rfl 5 (by decide) (hts _ (wg_t kw_170)) (fun _ h9 => h9) (cd := (3, 105)) rfl dDA_readSecret_94 (fun v31 hv31 => ?_)
          obtain ⟨r28, rfl, kr28⟩ := (show ∃ r : Nat, v31 = .ref r ∧ T r = some 105 from hv31)
          refine lv_iload hx hb dDA_readSecret_97 (lv_at hl 0 rfl) ?_
          refine nw_aald3 hx hb hK hO kr28 (k := 105) (b := 106) rfl hP (by omega) (by omega) dDA_readSecret_99 (fun r29 kr29 => ?_)
          have hn23 : nsp (106 + i22) = (0, 256, []) := rows_ok 106 8 (by decide) _ (by omega)
          refine lv_aload_n hx hb dDA_readSecret_100 rfl (lv_at hl 3 rfl) ?_
          refine nw_get (C := "LatticeKeys$DsaSet") (TT := T_DS) (N := 17) hx hb hts (wg_ft i_DS) hown hK hO k_st (kn := 11) (ci := 2) (fl := [(1, 8), (1, 7), (1, 2), (1, 3), (1, 60), (1, 64), (1, 20), (1, 524288), (1, 16), (1, 4), (1, 261888), (1, 75), (1, 120), (1, 2592), (1, 4896), (1, 4544), (1, 4627)]) rfl hP rfl 3 (by decide) (hts _ (wg_t kw_310)) (fun _ h9 => h9) (cd := (1, 3)) rfl dDA_readSecret_101 (fun v32 hv32 => ?_)
          obtain rfl := (show v32 = .int (nI 3) from hv32)
          refine lv_aload_n hx hb dDA_readSecret_104 rfl (lv_at hl 3 rfl) ?_
          refine nw_get (C := "LatticeKeys$DsaSet") (TT := T_DS) (N := 17) hx hb hts (wg_ft i_DS) hown hK hO k_st (kn := 11) (ci := 2) (fl := [(1, 8), (1, 7), (1, 2), (1, 3), (1, 60), (1, 64), (1, 20), (1, 524288), (1, 16), (1, 4), (1, 261888), (1, 75), (1, 120), (1, 2592), (1, 4896), (1, 4544), (1, 4627)]) rfl hP rfl 2 (by decide) (hts _ (wg_t kw_307)) (fun _ h9 => h9) (cd := (1, 2)) rfl dDA_readSecret_105 (fun v33 hv33 => ?_)
          obtain rfl := (show v33 = .int (nI 2) from hv33)
          refine lv_aload_n hx hb dDA_readSecret_108 rfl (lv_at hl 4 rfl) ?_
          refine lv_iload_n hx hb dDA_readSecret_109 rfl (lv_at hl 1 rfl) ?_
          refine mp_v (cx := []) (wr := []) hP hD hS hA [] [] rfl rfl rfl (by decide) (va_runV (As := [.ref r29, .int (nI 3), .int (nI 2), .ref sk, .int (nI pz22)]) (rest := []) F (N_DA_readFlipped l g _ T s23 pl hO hU h0 r29 sk (106 + i22) 3 (nI 2) psk 4896 pz22 k_h0 kr29 hn23 k_sk n_sk (by omega) (by omega) (by omega)) (cwV 5 hts (wg_app (wg_c kw_1183 (wg_c kw_1185 (wg_c ks_35 (wg_c kw_5 wg_n)))) kw_1186) rfl rfl rfl (by decide +kernel) ⟨by decide, by decide⟩) (pn_W "LatticeKeys$Dsa" (en_ok g) (ci := 6) (kn := 39) (fl := [(3, 16), (3, 22), (3, 37), (3, 40), (3, 97), (3, 105), (3, 114), (3, 123), (3, 131), (3, 140), (3, 141), (3, 142), (3, 143), (3, 144), (3, 145), (3, 146), (3, 147)]) hK hO k_h0 rfl hP hD hS hA hE [] rfl rfl rfl) rfl rfl hl.1 rfl (lv_room (Nat.le_of_ble_eq_true rfl)) dDA_readSecret_110 ⟨by omega, by omega⟩) (fun  u24 H locs hu24 hP hD hS => ?_)
          obtain ⟨s27, pl⟩ := u24
          obtain ⟨⟨eq24, hFc24, -⟩, hO⟩ := hu24
          have hO : okn g T s27 pl := hO
          have hP : va_P g.1 vcl ([] ++ pl) _ := hP
          have hD : va_D _ ([] ++ pl) := hD
          have hFc24 : frm (M_DA_readFlipped (106 + i22)) s23 s27 := hFc24
          replace hR := bnd_step hR eq24
          have hF := frm_tr hF hFc24 (fun k hk => by unfold M_DA_readFlipped at hk; unfold M_DA_readSecret_2; omega)
          refine W.widen (k := 0) (n := 0) (by omega) (by omega) ?_
          refine lv_aload_n hx hb dDA_readSecret_113 rfl (lv_at hl 2 rfl) ?_
          refine nw_get (C := "LatticeKeys$Dsa") (TT := T_DA) (N := 17) hx hb hts (wg_ft i_DA) hown hK hO k_h0 (kn := 39) (ci := 6) (fl := [(3, 16), (3, 22), (3, 37), (3, 40), (3, 97), (3, 105), (3, 114), (3, 123), (3, 131), (3, 140), (3, 141), (3, 142), (3, 143), (3, 144), (3, 145), (3, 146), (3, 147)]) rfl hP rfl 1 (by decide) (hts _ (wg_t kw_166)) (fun _ h9 => h9) (cd := (3, 22)) rfl dDA_readSecret_114 (fun v34 hv34 => ?_)
          obtain ⟨r30, rfl, kr30⟩ := (show ∃ r : Nat, v34 = .ref r ∧ T r = some 22 from hv34)
          refine lv_aload_n hx hb dDA_readSecret_117 rfl (lv_at hl 2 rfl) ?_
          refine nw_get (C := "LatticeKeys$Dsa") (TT := T_DA) (N := 17) hx hb hts (wg_ft i_DA) hown hK hO k_h0 (kn := 39) (ci := 6) (fl := [(3, 16), (3, 22), (3, 37), (3, 40), (3, 97), (3, 105), (3, 114), (3, 123), (3, 131), (3, 140), (3, 141), (3, 142), (3, 143), (3, 144), (3, 145), (3, 146), (3, 147)]) rfl hP rfl 5 (by decide) (hts _ (wg_t kw_170)) (fun _ h9 => h9) (cd := (3, 105)) rfl dDA_readSecret_118 (fun v35 hv35 => ?_)
          obtain ⟨r31, rfl, kr31⟩ := (show ∃ r : Nat, v35 = .ref r ∧ T r = some 105 from hv35)
          refine lv_iload hx hb dDA_readSecret_121 (lv_at hl 0 rfl) ?_
          refine nw_aald3 hx hb hK hO kr31 (k := 105) (b := 106) rfl hP (by omega) (by omega) dDA_readSecret_123 (fun r32 kr32 => ?_)
          have hn24 : nsp (106 + i22) = (0, 256, []) := rows_ok 106 8 (by decide) _ (by omega)
          refine mp_v (cx := []) (wr := []) hP hD hS hA [] [] rfl rfl rfl (by decide) (va_runV (As := [.ref r32]) (rest := []) F (N_RG_transform_8 l g _ T s27 pl hO hU r30 r32 (106 + i22) kr30 kr32 hn24) (cwV 1 hts (wg_app (wg_c kw_711 (wg_c kw_637 (wg_c kw_638 (wg_c kw_4 wg_n)))) kw_639) rfl rfl rfl (by decide +kernel) ⟨by decide, by decide⟩) (pn_W "LatticeKeys$Ring" (en_ok g) (ci := 4) (kn := 22) (fl := [(1, 8380417), (1, 8), (1, 8347681), (3, 23)]) hK hO kr30 rfl hP hD hS hA hE [] rfl rfl rfl) rfl rfl hl.1 rfl (lv_room (Nat.le_of_ble_eq_true rfl)) dDA_readSecret_124 ⟨by omega, by omega⟩) (fun  u25 H locs hu25 hP hD hS => ?_)
          obtain ⟨s28, pl⟩ := u25
          obtain ⟨⟨eq25, hFc25, -⟩, hO⟩ := hu25
          have hO : okn g T s28 pl := hO
          have hP : va_P g.1 vcl ([] ++ pl) _ := hP
          have hD : va_D _ ([] ++ pl) := hD
          have hFc25 : frm (M_RG_transform_8 (106 + i22)) s27 s28 := hFc25
          replace hR := bnd_step hR eq25
          have hF := frm_tr hF hFc25 (fun k hk => by unfold M_RG_transform_8 at hk; unfold M_DA_readSecret_2; omega)
          refine W.widen (k := 0) (n := 0) (by omega) (by omega) ?_
          refine lv_iload_n hx hb dDA_readSecret_127 rfl (lv_at hl 1 rfl) ?_
          refine lv_bipush (v := nI 32) hx hb dDA_readSecret_128 (by decide) ?_
          refine lv_aload_n hx hb dDA_readSecret_130 rfl (lv_at hl 3 rfl) ?_
          refine nw_get (C := "LatticeKeys$DsaSet") (TT := T_DS) (N := 17) hx hb hts (wg_ft i_DS) hown hK hO k_st (kn := 11) (ci := 2) (fl := [(1, 8), (1, 7), (1, 2), (1, 3), (1, 60), (1, 64), (1, 20), (1, 524288), (1, 16), (1, 4), (1, 261888), (1, 75), (1, 120), (1, 2592), (1, 4896), (1, 4544), (1, 4627)]) rfl hP rfl 3 (by decide) (hts _ (wg_t kw_310)) (fun _ h9 => h9) (cd := (1, 3)) rfl dDA_readSecret_131 (fun v36 hv36 => ?_)
          obtain rfl := (show v36 = .int (nI 3) from hv36)
          refine mi_imul hx hb dDA_readSecret_134 ?_
          refine mi_as (show nI (32 * 3) = nI 96 from rfl) ?_
          refine mi_iadd hx hb dDA_readSecret_135 ?_
          refine lv_istore_n (lv' := [(3, .int (nI (pz22 + 96))), (4, .int (nI i22)), (0, .ref h0), (1, .ref st), (2, .ref sk)]) hx hb dDA_readSecret_136 rfl hl (by decide) rfl (fun ls hl => ?_)
          refine mi_iinc (k := 1) (x := i22) (d := 1) (y := i22 + 1) (lv' := [(4, .int (nI (i22 + 1))), (3, .int (nI (pz22 + 96))), (0, .ref h0), (1, .ref st), (2, .ref sk)]) hx hb dDA_readSecret_137 hl rfl (by decide) rfl (by decide) rfl (fun ls hl => ?_)
          refine lv_goto (tgt := 83) hx hb dDA_readSecret_140 (by decide) ?_
          exact ih22 (i22 + 1) (pz22 + 96) s28 pl ls H locs (by omega) (by omega) hF hR (lv_sub hl [0, 1, 2, 3, 4] rfl) hO hP hD hS
      exact lp22 8 0 pz21 s22 pl ls _ _ (by omega) (by omega) hF hR (lv_sub hl [0, 1, 2, 3, 4] rfl) hO hP hD hS
    | succ n21 ih21 =>
      intro i21 pz21 s22 pl ls H locs hm21 hi21 hF hR hl hO hP hD hS
      refine lv_iload hx hb dDA_readSecret_20 (lv_at hl 0 rfl) ?_
      refine lv_aload_n hx hb dDA_readSecret_22 rfl (lv_at hl 3 rfl) ?_
      refine nw_get (C := "LatticeKeys$DsaSet") (TT := T_DS) (N := 17) hx hb hts (wg_ft i_DS) hown hK hO k_st (kn := 11) (ci := 2) (fl := [(1, 8), (1, 7), (1, 2), (1, 3), (1, 60), (1, 64), (1, 20), (1, 524288), (1, 16), (1, 4), (1, 261888), (1, 75), (1, 120), (1, 2592), (1, 4896), (1, 4544), (1, 4627)]) rfl hP rfl 1 (by decide) (hts _ (wg_t kw_305)) (fun _ h9 => h9) (cd := (1, 7)) rfl dDA_readSecret_23 (fun v37 hv37 => ?_)
      obtain rfl := (show v37 = .int (nI 7) from hv37)
      refine mi_ge (tgt := 80) hx hb dDA_readSecret_26 (by decide) (by omega) (by omega) (fun h26 => absurd h26 (by omega)) (fun h26 => ?_)
      refine lv_aload_n hx hb dDA_readSecret_29 rfl (lv_at hl 2 rfl) ?_
      refine lv_aload_n hx hb dDA_readSecret_30 rfl (lv_at hl 2 rfl) ?_
      refine nw_get (C := "LatticeKeys$Dsa") (TT := T_DA) (N := 17) hx hb hts (wg_ft i_DA) hown hK hO k_h0 (kn := 39) (ci := 6) (fl := [(3, 16), (3, 22), (3, 37), (3, 40), (3, 97), (3, 105), (3, 114), (3, 123), (3, 131), (3, 140), (3, 141), (3, 142), (3, 143), (3, 144), (3, 145), (3, 146), (3, 147)]) rfl hP rfl 4 (by decide) (hts _ (wg_t kw_169)) (fun _ h9 => h9) (cd := (3, 97)) rfl dDA_readSecret_31 (fun v38 hv38 => ?_)
      obtain ⟨r33, rfl, kr33⟩ := (show ∃ r : Nat, v38 = .ref r ∧ T r = some 97 from hv38)
      refine lv_iload hx hb dDA_readSecret_34 (lv_at hl 0 rfl) ?_
      refine nw_aald3 hx hb hK hO kr33 (k := 97) (b := 98) rfl hP (by omega) (by omega) dDA_readSecret_36 (fun r34 kr34 => ?_)
      have hn25 : nsp (98 + i21) = (0, 256, []) := rows_ok 98 7 (by decide) _ (by omega)
      refine lv_aload_n hx hb dDA_readSecret_37 rfl (lv_at hl 3 rfl) ?_
      refine nw_get (C := "LatticeKeys$DsaSet") (TT := T_DS) (N := 17) hx hb hts (wg_ft i_DS) hown hK hO k_st (kn := 11) (ci := 2) (fl := [(1, 8), (1, 7), (1, 2), (1, 3), (1, 60), (1, 64), (1, 20), (1, 524288), (1, 16), (1, 4), (1, 261888), (1, 75), (1, 120), (1, 2592), (1, 4896), (1, 4544), (1, 4627)]) rfl hP rfl 3 (by decide) (hts _ (wg_t kw_310)) (fun _ h9 => h9) (cd := (1, 3)) rfl dDA_readSecret_38 (fun v39 hv39 => ?_)
      obtain rfl := (show v39 = .int (nI 3) from hv39)
      refine lv_aload_n hx hb dDA_readSecret_41 rfl (lv_at hl 3 rfl) ?_
      refine nw_get (C := "LatticeKeys$DsaSet") (TT := T_DS) (N := 17) hx hb hts (wg_ft i_DS) hown hK hO k_st (kn := 11) (ci := 2) (fl := [(1, 8), (1, 7), (1, 2), (1, 3), (1, 60), (1, 64), (1, 20), (1, 524288), (1, 16), (1, 4), (1, 261888), (1, 75), (1, 120), (1, 2592), (1, 4896), (1, 4544), (1, 4627)]) rfl hP rfl 2 (by decide) (hts _ (wg_t kw_307)) (fun _ h9 => h9) (cd := (1, 2)) rfl dDA_readSecret_42 (fun v40 hv40 => ?_)
      obtain rfl := (show v40 = .int (nI 2) from hv40)
      refine lv_aload_n hx hb dDA_readSecret_45 rfl (lv_at hl 4 rfl) ?_
      refine lv_iload_n hx hb dDA_readSecret_46 rfl (lv_at hl 1 rfl) ?_
      refine mp_v (cx := []) (wr := []) hP hD hS hA [] [] rfl rfl rfl (by decide) (va_runV (As := [.ref r34, .int (nI 3), .int (nI 2), .ref sk, .int (nI pz21)]) (rest := []) F (N_DA_readFlipped l g _ T s22 pl hO hU h0 r34 sk (98 + i21) 3 (nI 2) psk 4896 pz21 k_h0 kr34 hn25 k_sk n_sk (by omega) (by omega) (by omega)) (cwV 5 hts (wg_app (wg_c kw_1183 (wg_c kw_1185 (wg_c ks_35 (wg_c kw_5 wg_n)))) kw_1186) rfl rfl rfl (by decide +kernel) ⟨by decide, by decide⟩) (pn_W "LatticeKeys$Dsa" (en_ok g) (ci := 6) (kn := 39) (fl := [(3, 16), (3, 22), (3, 37), (3, 40), (3, 97), (3, 105), (3, 114), (3, 123), (3, 131), (3, 140), (3, 141), (3, 142), (3, 143), (3, 144), (3, 145), (3, 146), (3, 147)]) hK hO k_h0 rfl hP hD hS hA hE [] rfl rfl rfl) rfl rfl hl.1 rfl (lv_room (Nat.le_of_ble_eq_true rfl)) dDA_readSecret_47 ⟨by omega, by omega⟩) (fun  u26 H locs hu26 hP hD hS => ?_)
      obtain ⟨s29, pl⟩ := u26
      obtain ⟨⟨eq26, hFc26, -⟩, hO⟩ := hu26
      have hO : okn g T s29 pl := hO
      have hP : va_P g.1 vcl ([] ++ pl) _ := hP
      have hD : va_D _ ([] ++ pl) := hD
      have hFc26 : frm (M_DA_readFlipped (98 + i21)) s22 s29 := hFc26
      replace hR := bnd_step hR eq26
      have hF := frm_tr hF hFc26 (fun k hk => by unfold M_DA_readFlipped at hk; unfold M_DA_readSecret_2; omega)
      refine W.widen (k := 0) (n := 0) (by omega) (by omega) ?_
      refine lv_aload_n hx hb dDA_readSecret_50 rfl (lv_at hl 2 rfl) ?_
      refine nw_get (C := "LatticeKeys$Dsa") (TT := T_DA) (N := 17) hx hb hts (wg_ft i_DA) hown hK hO k_h0 (kn := 39) (ci := 6) (fl := [(3, 16), (3, 22), (3, 37), (3, 40), (3, 97), (3, 105), (3, 114), (3, 123), (3, 131), (3, 140), (3, 141), (3, 142), (3, 143), (3, 144), (3, 145), (3, 146), (3, 147)]) rfl hP rfl 1 (by decide) (hts _ (wg_t kw_166)) (fun _ h9 => h9) (cd := (3, 22)) rfl dDA_readSecret_51 (fun v41 hv41 => ?_)
      obtain ⟨r35, rfl, kr35⟩ := (show ∃ r : Nat, v41 = .ref r ∧ T r = some 22 from hv41)
      refine lv_aload_n hx hb dDA_readSecret_54 rfl (lv_at hl 2 rfl) ?_
      refine nw_get (C := "LatticeKeys$Dsa") (TT := T_DA) (N := 17) hx hb hts (wg_ft i_DA) hown hK hO k_h0 (kn := 39) (ci := 6) (fl := [(3, 16), (3, 22), (3, 37), (3, 40), (3, 97), (3, 105), (3, 114), (3, 123), (3, 131), (3, 140), (3, 141), (3, 142), (3, 143), (3, 144), (3, 145), (3, 146), (3, 147)]) rfl hP rfl 4 (by decide) (hts _ (wg_t kw_169)) (fun _ h9 => h9) (cd := (3, 97)) rfl dDA_readSecret_55 (fun v42 hv42 => ?_)
      obtain ⟨r36, rfl, kr36⟩ := (show ∃ r : Nat, v42 = .ref r ∧ T r = some 97 from hv42)
      refine lv_iload hx hb dDA_readSecret_58 (lv_at hl 0 rfl) ?_
      refine nw_aald3 hx hb hK hO kr36 (k := 97) (b := 98) rfl hP (by omega) (by omega) dDA_readSecret_60 (fun r37 kr37 => ?_)
      have hn26 : nsp (98 + i21) = (0, 256, []) := rows_ok 98 7 (by decide) _ (by omega)
      refine mp_v (cx := []) (wr := []) hP hD hS hA [] [] rfl rfl rfl (by decide) (va_runV (As := [.ref r37]) (rest := []) F (N_RG_transform_8 l g _ T s29 pl hO hU r35 r37 (98 + i21) kr35 kr37 hn26) (cwV 1 hts (wg_app (wg_c kw_711 (wg_c kw_637 (wg_c kw_638 (wg_c kw_4 wg_n)))) kw_639) rfl rfl rfl (by decide +kernel) ⟨by decide, by decide⟩) (pn_W "LatticeKeys$Ring" (en_ok g) (ci := 4) (kn := 22) (fl := [(1, 8380417), (1, 8), (1, 8347681), (3, 23)]) hK hO kr35 rfl hP hD hS hA hE [] rfl rfl rfl) rfl rfl hl.1 rfl (lv_room (Nat.le_of_ble_eq_true rfl)) dDA_readSecret_61 ⟨by omega, by omega⟩) (fun  u27 H locs hu27 hP hD hS => ?_)
      obtain ⟨s30, pl⟩ := u27
      obtain ⟨⟨eq27, hFc27, -⟩, hO⟩ := hu27
      have hO : okn g T s30 pl := hO
      have hP : va_P g.1 vcl ([] ++ pl) _ := hP
      have hD : va_D _ ([] ++ pl) := hD
      have hFc27 : frm (M_RG_transform_8 (98 + i21)) s29 s30 := hFc27
      replace hR := bnd_step hR eq27
      have hF := frm_tr hF hFc27 (fun k hk => by unfold M_RG_transform_8 at hk; unfold M_DA_readSecret_2; omega)
      refine W.widen (k := 0) (n := 0) (by omega) (by omega) ?_
      refine lv_iload_n hx hb dDA_readSecret_64 rfl (lv_at hl 1 rfl) ?_
      refine lv_bipush (v := nI 32) hx hb dDA_readSecret_65 (by decide) ?_
      refine lv_aload_n hx hb dDA_readSecret_67 rfl (lv_at hl 3 rfl) ?_
      refine nw_get (C := "LatticeKeys$DsaSet") (TT := T_DS) (N := 17) hx hb hts (wg_ft i_DS) hown hK hO k_st (kn := 11) (ci := 2) (fl := [(1, 8), (1, 7), (1, 2), (1, 3), (1, 60), (1, 64), (1, 20), (1, 524288), (1, 16), (1, 4), (1, 261888), (1, 75), (1, 120), (1, 2592), (1, 4896), (1, 4544), (1, 4627)]) rfl hP rfl 3 (by decide) (hts _ (wg_t kw_310)) (fun _ h9 => h9) (cd := (1, 3)) rfl dDA_readSecret_68 (fun v43 hv43 => ?_)
      obtain rfl := (show v43 = .int (nI 3) from hv43)
      refine mi_imul hx hb dDA_readSecret_71 ?_
      refine mi_as (show nI (32 * 3) = nI 96 from rfl) ?_
      refine mi_iadd hx hb dDA_readSecret_72 ?_
      refine lv_istore_n (lv' := [(3, .int (nI (pz21 + 96))), (4, .int (nI i21)), (0, .ref h0), (1, .ref st), (2, .ref sk)]) hx hb dDA_readSecret_73 rfl hl (by decide) rfl (fun ls hl => ?_)
      refine mi_iinc (k := 1) (x := i21) (d := 1) (y := i21 + 1) (lv' := [(4, .int (nI (i21 + 1))), (3, .int (nI (pz21 + 96))), (0, .ref h0), (1, .ref st), (2, .ref sk)]) hx hb dDA_readSecret_74 hl rfl (by decide) rfl (by decide) rfl (fun ls hl => ?_)
      refine lv_goto (tgt := 20) hx hb dDA_readSecret_77 (by decide) ?_
      exact ih21 (i21 + 1) (pz21 + 96) s30 pl ls H locs (by omega) (by omega) hF hR (lv_sub hl [0, 1, 2, 3, 4] rfl) hO hP hD hS
  exact lp21 7 0 128 s21 pl ls _ _ (by omega) (by omega) hF hR (lv_sub hl [0, 1, 2, 3, 4] rfl) hO hP hD hS
def M_DA_writeSmallVectors_0 (psk : Nat) (k : Nat) : Prop := (106 ≤ k ∧ k < 114) ∨ (98 ≤ k ∧ k < 105) ∨ k = 141 ∨ k = 18 ∨ k = psk ∨ (0 : Nat) = 1
noncomputable def F_DA_writeSmallVectors_0_L0 (psk : Nat) : Nat → Nat → Sto → Sto
  | 0, i21, s21 => s21
  | n21 + 1, i21, s21 => if 4 ≤ i21 then bnd (F_SA_sampleSmall_0 (106 + (i21 - 4)) 142 128 32 (nI i21) s21) fun s22 => bnd (F_RG_flip_8 (106 + (i21 - 4)) (nI 2) 141 s22) fun s23 => bnd (F_BT_pack 141 3 psk 2560 (128 + (96 * i21)) s23) fun s24 => F_DA_writeSmallVectors_0_L0 psk n21 (i21 + 1) s24 else bnd (F_SA_sampleSmall_0 (98 + i21) 142 128 32 (nI i21) s21) fun s25 => bnd (F_RG_flip_8 (98 + i21) (nI 2) 141 s25) fun s26 => bnd (F_BT_pack 141 3 psk 2560 (128 + (96 * i21)) s26) fun s27 => F_DA_writeSmallVectors_0_L0 psk n21 (i21 + 1) s27
noncomputable def F_DA_writeSmallVectors_0 (psk : Nat) (s : Sto) : Sto := F_DA_writeSmallVectors_0_L0 psk 8 0 s
set_option maxHeartbeats 8000000 in
set_option maxRecDepth 100000 in
theorem N_DA_writeSmallVectors_0 (l : Launch) (g : Gd) (sz : Nat) (T : TyN) (s : Sto) (pl : va_W) (hO : okn g T s pl) (hU : inj T) (h0 st sk : Nat) (psk : Nat) (k_h0 : T h0 = some 39) (k_st : T st = some 9) (k_sk : T sk = some psk) (n_sk : nsp psk = (1, 2560, []))  : Met l y_DA_writeSmallVectors w_DA_writeSmallVectors ({ frames := 5, cells := 0, slots := 0, locals := 151 } : Room) (va_Pc [.ref h0, .ref st, .ref sk] (pr (en g) g.1 vcl sz ([] ++ pl))) (va_Qv (fun (u : (Sto) × va_W) => (u.1 = F_DA_writeSmallVectors_0 psk s ∧ frm (M_DA_writeSmallVectors_0 psk) s u.1 ∧ True) ∧ okn g T u.1 u.2) (po g.1 vcl (va_A ([] ++ pl) sz) (fun (u : (Sto) × va_W) => [] ++ u.2)) (va_A ([] ++ pl) sz)) 0 0 (va_A ([] ++ pl) sz) := by
  refine mc_entry (cc := c_DA_writeSmallVectors) (maxL := 6) (ret := none) (by decide) rfl (Nat.le_of_ble_eq_true rfl) ?_
  intro p e s0 m args below meth c ls F hr hlk hnm hsz hP hD hE hA hl
  obtain ⟨hx, hb, hml, hown, hts⟩ := id F
  have hK := hE.1
  generalize va_A ([] ++ pl) sz = A at hD hE hA ⊢
  have hS : va_S A s0.heap s0.heap [] := va_S.rf
  have hl : lv_has ls 6 [(0, .ref h0), (1, .ref st), (2, .ref sk)] := hl
  have hR : F_DA_writeSmallVectors_0 psk s = F_DA_writeSmallVectors_0 psk s := rfl
  have hF : frm (M_DA_writeSmallVectors_0 psk) s s := frm_rf
  refine lv_bipush (v := nI 32) hx hb dDA_writeSmallVectors_0 (by decide) ?_
  refine lv_aload_n hx hb dDA_writeSmallVectors_2 rfl (lv_at hl 1 rfl) ?_
  refine nw_get (C := "LatticeKeys$DsaSet") (TT := T_DS) (N := 17) hx hb hts (wg_ft i_DS) hown hK hO k_st (kn := 9) (ci := 2) (fl := [(1, 4), (1, 4), (1, 2), (1, 3), (1, 39), (1, 32), (1, 18), (1, 131072), (1, 44), (1, 6), (1, 95232), (1, 80), (1, 78), (1, 1312), (1, 2560), (1, 2336), (1, 2420)]) rfl hP rfl 3 (by decide) (hts _ (wg_t kw_310)) (fun _ h9 => h9) (cd := (1, 3)) rfl dDA_writeSmallVectors_3 (fun v21 hv21 => ?_)
  obtain rfl := (show v21 = .int (nI 3) from hv21)
  refine mi_imul hx hb dDA_writeSmallVectors_6 ?_
  refine mi_as (show nI (32 * 3) = nI 96 from rfl) ?_
  refine lv_istore_n (lv' := [(3, .int (nI 96)), (0, .ref h0), (1, .ref st), (2, .ref sk)]) hx hb dDA_writeSmallVectors_7 rfl hl (by decide) rfl (fun ls hl => ?_)
  refine lv_iconst (v := nI 0) hx hb dDA_writeSmallVectors_8 (by decide) ?_
  refine lv_istore (lv' := [(4, .int (nI 0)), (3, .int (nI 96)), (0, .ref h0), (1, .ref st), (2, .ref sk)]) hx hb dDA_writeSmallVectors_9 hl (by decide) rfl (fun ls hl => ?_)
  have lp21 : ∀ (n21 : Nat) (i21 : Nat) (s21 : Sto) (pl : va_W) (ls : Array Slot) (H : Heap) (locs : List Loc), n21 + i21 = 8 → frm (M_DA_writeSmallVectors_0 psk) s s21 → F_DA_writeSmallVectors_0 psk s = F_DA_writeSmallVectors_0_L0 psk n21 i21 s21 → lv_has ls 6 [(4, .int (nI i21)), (3, .int (nI 96)), (0, .ref h0), (1, .ref st), (2, .ref sk)] → okn g T s21 pl → va_P g.1 vcl ([] ++ pl) H → va_D A ([] ++ pl) → va_S A s0.heap H locs → W p l e ({ frames := 5, cells := 0, slots := 0, locals := 151 } : Room) s0 m args below meth c H locs 0 0 (MQ below (va_Qv (fun (u : (Sto) × va_W) => (u.1 = F_DA_writeSmallVectors_0 psk s ∧ frm (M_DA_writeSmallVectors_0 psk) s u.1 ∧ True) ∧ okn g T u.1 u.2) (po g.1 vcl A (fun (u : (Sto) × va_W) => [] ++ u.2)) A) args s0 0 0 A) (F0 m 11 ls []) := by
    intro n21
    induction n21 with
    | zero =>
      intro i21 s21 pl ls H locs hm21 hF hR hl hO hP hD hS
      refine lv_iload hx hb dDA_writeSmallVectors_11 (lv_at hl 0 rfl) ?_
      refine lv_aload_n hx hb dDA_writeSmallVectors_13 rfl (lv_at hl 3 rfl) ?_
      refine nw_get (C := "LatticeKeys$DsaSet") (TT := T_DS) (N := 17) hx hb hts (wg_ft i_DS) hown hK hO k_st (kn := 9) (ci := 2) (fl := [(1, 4), (1, 4), (1, 2), (1, 3), (1, 39), (1, 32), (1, 18), (1, 131072), (1, 44), (1, 6), (1, 95232), (1, 80), (1, 78), (1, 1312), (1, 2560), (1, 2336), (1, 2420)]) rfl hP rfl 1 (by decide) (hts _ (wg_t kw_305)) (fun _ h9 => h9) (cd := (1, 4)) rfl dDA_writeSmallVectors_14 (fun v22 hv22 => ?_)
      obtain rfl := (show v22 = .int (nI 4) from hv22)
      refine lv_aload_n hx hb dDA_writeSmallVectors_17 rfl (lv_at hl 3 rfl) ?_
      refine nw_get (C := "LatticeKeys$DsaSet") (TT := T_DS) (N := 17) hx hb hts (wg_ft i_DS) hown hK hO k_st (kn := 9) (ci := 2) (fl := [(1, 4), (1, 4), (1, 2), (1, 3), (1, 39), (1, 32), (1, 18), (1, 131072), (1, 44), (1, 6), (1, 95232), (1, 80), (1, 78), (1, 1312), (1, 2560), (1, 2336), (1, 2420)]) rfl hP rfl 0 (by decide) (hts _ (wg_t kw_302)) (fun _ h9 => h9) (cd := (1, 4)) rfl dDA_writeSmallVectors_18 (fun v23 hv23 => ?_)
      obtain rfl := (show v23 = .int (nI 4) from hv23)
      refine mi_iadd hx hb dDA_writeSmallVectors_21 ?_
      refine mi_as (show nI (4 + 4) = nI 8 from rfl) ?_
      refine mi_ge (tgt := 119) hx hb dDA_writeSmallVectors_22 (by decide) (by omega) (by omega) (fun h21 => ?_) (fun h21 => absurd h21 (by omega))
      exact mp_vret hx hb hr hlk hP hD hS (s21, pl) ⟨⟨hR.symm, hF, trivial⟩, hO⟩ [] rfl rfl rfl (by omega) (by omega) dDA_writeSmallVectors_119
    | succ n21 ih21 =>
      intro i21 s21 pl ls H locs hm21 hF hR hl hO hP hD hS
      refine lv_iload hx hb dDA_writeSmallVectors_11 (lv_at hl 0 rfl) ?_
      refine lv_aload_n hx hb dDA_writeSmallVectors_13 rfl (lv_at hl 3 rfl) ?_
      refine nw_get (C := "LatticeKeys$DsaSet") (TT := T_DS) (N := 17) hx hb hts (wg_ft i_DS) hown hK hO k_st (kn := 9) (ci := 2) (fl := [(1, 4), (1, 4), (1, 2), (1, 3), (1, 39), (1, 32), (1, 18), (1, 131072), (1, 44), (1, 6), (1, 95232), (1, 80), (1, 78), (1, 1312), (1, 2560), (1, 2336), (1, 2420)]) rfl hP rfl 1 (by decide) (hts _ (wg_t kw_305)) (fun _ h9 => h9) (cd := (1, 4)) rfl dDA_writeSmallVectors_14 (fun v24 hv24 => ?_)
      obtain rfl := (show v24 = .int (nI 4) from hv24)
      refine lv_aload_n hx hb dDA_writeSmallVectors_17 rfl (lv_at hl 3 rfl) ?_
      refine nw_get (C := "LatticeKeys$DsaSet") (TT := T_DS) (N := 17) hx hb hts (wg_ft i_DS) hown hK hO k_st (kn := 9) (ci := 2) (fl := [(1, 4), (1, 4), (1, 2), (1, 3), (1, 39), (1, 32), (1, 18), (1, 131072), (1, 44), (1, 6), (1, 95232), (1, 80), (1, 78), (1, 1312), (1, 2560), (1, 2336), (1, 2420)]) rfl hP rfl 0 (by decide) (hts _ (wg_t kw_302)) (fun _ h9 => h9) (cd := (1, 4)) rfl dDA_writeSmallVectors_18 (fun v25 hv25 => ?_)
      obtain rfl := (show v25 = .int (nI 4) from hv25)
      refine mi_iadd hx hb dDA_writeSmallVectors_21 ?_
      refine mi_as (show nI (4 + 4) = nI 8 from rfl) ?_
      refine mi_ge (tgt := 119) hx hb dDA_writeSmallVectors_22 (by decide) (by omega) (by omega) (fun h22 => absurd h22 (by omega)) (fun h22 => ?_)
      refine lv_iload hx hb dDA_writeSmallVectors_25 (lv_at hl 0 rfl) ?_
      refine lv_aload_n hx hb dDA_writeSmallVectors_27 rfl (lv_at hl 3 rfl) ?_
      refine nw_get (C := "LatticeKeys$DsaSet") (TT := T_DS) (N := 17) hx hb hts (wg_ft i_DS) hown hK hO k_st (kn := 9) (ci := 2) (fl := [(1, 4), (1, 4), (1, 2), (1, 3), (1, 39), (1, 32), (1, 18), (1, 131072), (1, 44), (1, 6), (1, 95232), (1, 80), (1, 78), (1, 1312), (1, 2560), (1, 2336), (1, 2420)]) rfl hP rfl 1 (by decide) (hts _ (wg_t kw_305)) (fun _ h9 => h9) (cd := (1, 4)) rfl dDA_writeSmallVectors_28 (fun v26 hv26 => ?_)
      obtain rfl := (show v26 = .int (nI 4) from hv26)
      refine mi_ge (tgt := 44) hx hb dDA_writeSmallVectors_31 (by decide) (by omega) (by omega) (fun h23 => ?_) (fun h23 => ?_)
      · replace hR := hR.trans (if_pos h23)
        refine lv_aload_n hx hb dDA_writeSmallVectors_44 rfl (lv_at hl 2 rfl) ?_
        refine nw_get (C := "LatticeKeys$Dsa") (TT := T_DA) (N := 17) hx hb hts (wg_ft i_DA) hown hK hO k_h0 (kn := 39) (ci := 6) (fl := [(3, 16), (3, 22), (3, 37), (3, 40), (3, 97), (3, 105), (3, 114), (3, 123), (3, 131), (3, 140), (3, 141), (3, 142), (3, 143), (3, 144), (3, 145), (3, 146), (3, 147)]) rfl hP rfl 5 (by decide) (hts _ (wg_t kw_170)) (fun _ h9 => h9) (cd := (3, 105)) rfl dDA_writeSmallVectors_45 (fun v27 hv27 => ?_)
        obtain ⟨r21, rfl, kr21⟩ := (show ∃ r : Nat, v27 = .ref r ∧ T r = some 105 from hv27)
        refine lv_iload hx hb dDA_writeSmallVectors_48 (lv_at hl 0 rfl) ?_
        refine lv_aload_n hx hb dDA_writeSmallVectors_50 rfl (lv_at hl 3 rfl) ?_
        refine nw_get (C := "LatticeKeys$DsaSet") (TT := T_DS) (N := 17) hx hb hts (wg_ft i_DS) hown hK hO k_st (kn := 9) (ci := 2) (fl := [(1, 4), (1, 4), (1, 2), (1, 3), (1, 39), (1, 32), (1, 18), (1, 131072), (1, 44), (1, 6), (1, 95232), (1, 80), (1, 78), (1, 1312), (1, 2560), (1, 2336), (1, 2420)]) rfl hP rfl 1 (by decide) (hts _ (wg_t kw_305)) (fun _ h9 => h9) (cd := (1, 4)) rfl dDA_writeSmallVectors_51 (fun v28 hv28 => ?_)
        obtain rfl := (show v28 = .int (nI 4) from hv28)
        refine mi_isub hx hb dDA_writeSmallVectors_54 (by omega) ?_
        refine nw_aald3 hx hb hK hO kr21 (k := 105) (b := 106) rfl hP (by omega) (by omega) dDA_writeSmallVectors_55 (fun r22 kr22 => ?_)
        have hn21 : nsp (106 + (i21 - 4)) = (0, 256, []) := rows_ok 106 8 (by decide) _ (by omega)
        refine lv_astore (lv' := [(5, .ref r22), (4, .int (nI i21)), (3, .int (nI 96)), (0, .ref h0), (1, .ref st), (2, .ref sk)]) hx hb dDA_writeSmallVectors_56 hl (by decide) rfl (fun ls hl => ?_)
        refine lv_aload_n hx hb dDA_writeSmallVectors_58 rfl (lv_at hl 3 rfl) ?_
        refine nw_get (C := "LatticeKeys$Dsa") (TT := T_DA) (N := 17) hx hb hts (wg_ft i_DA) hown hK hO k_h0 (kn := 39) (ci := 6) (fl := [(3, 16), (3, 22), (3, 37), (3, 40), (3, 97), (3, 105), (3, 114), (3, 123), (3, 131), (3, 140), (3, 141), (3, 142), (3, 143), (3, 144), (3, 145), (3, 146), (3, 147)]) rfl hP rfl 2 (by decide) (hts _ (wg_t kw_167)) (fun _ h9 => h9) (cd := (3, 37)) rfl dDA_writeSmallVectors_59 (fun v29 hv29 => ?_)
        obtain ⟨r23, rfl, kr23⟩ := (show ∃ r : Nat, v29 = .ref r ∧ T r = some 37 from hv29)
        refine lv_aload_n hx hb dDA_writeSmallVectors_62 rfl (lv_at hl 4 rfl) ?_
        refine lv_aload hx hb dDA_writeSmallVectors_63 (lv_at hl 0 rfl) ?_
        refine lv_aload_n hx hb dDA_writeSmallVectors_65 rfl (lv_at hl 3 rfl) ?_
        refine nw_get (C := "LatticeKeys$Dsa") (TT := T_DA) (N := 17) hx hb hts (wg_ft i_DA) hown hK hO k_h0 (kn := 39) (ci := 6) (fl := [(3, 16), (3, 22), (3, 37), (3, 40), (3, 97), (3, 105), (3, 114), (3, 123), (3, 131), (3, 140), (3, 141), (3, 142), (3, 143), (3, 144), (3, 145), (3, 146), (3, 147)]) rfl hP rfl 11 (by decide) (hts _ (wg_t kw_176)) (fun _ h9 => h9) (cd := (3, 142)) rfl dDA_writeSmallVectors_66 (fun v30 hv30 => ?_)
        obtain ⟨r24, rfl, kr24⟩ := (show ∃ r : Nat, v30 = .ref r ∧ T r = some 142 from hv30)
        refine lv_bipush (v := nI 32) hx hb dDA_writeSmallVectors_69 (by decide) ?_
        refine lv_iload hx hb dDA_writeSmallVectors_71 (lv_at hl 1 rfl) ?_
        refine mp_v (cx := []) (wr := []) hP hD hS hA [] [] rfl rfl rfl (by decide) (va_runV (As := [.ref st, .ref r22, .ref r24, .int (nI 32), .int (nI i21)]) (rest := []) F (N_SA_sampleSmall_0 l g _ T s21 pl hO hU r23 st r22 r24 (106 + (i21 - 4)) 142 128 32 (nI i21) kr23 k_st kr22 hn21 kr24 rfl (by omega) (by omega)) (cwV 5 hts (wg_app (wg_c kw_679 (wg_c kw_680 (wg_c kw_681 (wg_c kw_6 wg_n)))) kw_682) rfl rfl rfl (by decide +kernel) ⟨by decide, by decide⟩) (pn_W "LatticeKeys$DsaSampler" (en_ok g) (ci := 7) (kn := 37) (fl := [(3, 18), (3, 38)]) hK hO kr23 rfl hP hD hS hA hE [] rfl rfl rfl) rfl rfl hl.1 rfl (lv_room (Nat.le_of_ble_eq_true rfl)) dDA_writeSmallVectors_73 ⟨by omega, by omega⟩) (fun  u21 H locs hu21 hP hD hS => ?_)
        obtain ⟨s22, pl⟩ := u21
        obtain ⟨⟨eq21, hFc21, -⟩, hO⟩ := hu21
        have hO : okn g T s22 pl := hO
        have hP : va_P g.1 vcl ([] ++ pl) _ := hP
        have hD : va_D _ ([] ++ pl) := hD
        have hFc21 : frm (M_SA_sampleSmall_0 (106 + (i21 - 4))) s21 s22 := hFc21
        replace hR := bnd_step hR eq21
        have hF := frm_tr hF hFc21 (fun k hk => by unfold M_SA_sampleSmall_0 at hk; unfold M_DA_writeSmallVectors_0; omega)
        refine W.widen (k := 0) (n := 0) (by omega) (by omega) ?_
        refine lv_aload_n hx hb dDA_writeSmallVectors_76 rfl (lv_at hl 3 rfl) ?_
        refine nw_get (C := "LatticeKeys$Dsa") (TT := T_DA) (N := 17) hx hb hts (wg_ft i_DA) hown hK hO k_h0 (kn := 39) (ci := 6) (fl := [(3, 16), (3, 22), (3, 37), (3, 40), (3, 97), (3, 105), (3, 114), (3, 123), (3, 131), (3, 140), (3, 141), (3, 142), (3, 143), (3, 144), (3, 145), (3, 146), (3, 147)]) rfl hP rfl 1 (by decide) (hts _ (wg_t kw_166)) (fun _ h9 => h9) (cd := (3, 22)) rfl dDA_writeSmallVectors_77 (fun v31 hv31 => ?_)
        obtain ⟨r25, rfl, kr25⟩ := (show ∃ r : Nat, v31 = .ref r ∧ T r = some 22 from hv31)
        refine lv_aload hx hb dDA_writeSmallVectors_80 (lv_at hl 0 rfl) ?_
        refine lv_aload_n hx hb dDA_writeSmallVectors_82 rfl (lv_at hl 4 rfl) ?_
        refine nw_get (C := "LatticeKeys$DsaSet") (TT := T_DS) (N := 17) hx hb hts (wg_ft i_DS) hown hK hO k_st (kn := 9) (ci := 2) (fl := [(1, 4), (1, 4), (1, 2), (1, 3), (1, 39), (1, 32), (1, 18), (1, 131072), (1, 44), (1, 6), (1, 95232), (1, 80), (1, 78), (1, 1312), (1, 2560), (1, 2336), (1, 2420)]) rfl hP rfl 2 (by decide) (hts _ (wg_t kw_307)) (fun _ h9 => h9) (cd := (1, 2)) rfl dDA_writeSmallVectors_83 (fun v32 hv32 => ?_)
        obtain rfl := (show v32 = .int (nI 2) from hv32)
        refine lv_aload_n hx hb dDA_writeSmallVectors_86 rfl (lv_at hl 3 rfl) ?_
        refine nw_get (C := "LatticeKeys$Dsa") (TT := T_DA) (N := 17) hx hb hts (wg_ft i_DA) hown hK hO k_h0 (kn := 39) (ci := 6) (fl := [(3, 16), (3, 22), (3, 37), (3, 40), (3, 97), (3, 105), (3, 114), (3, 123), (3, 131), (3, 140), (3, 141), (3, 142), (3, 143), (3, 144), (3, 145), (3, 146), (3, 147)]) rfl hP rfl 10 (by decide) (hts _ (wg_t kw_175)) (fun _ h9 => h9) (cd := (3, 141)) rfl dDA_writeSmallVectors_87 (fun v33 hv33 => ?_)
        obtain ⟨r26, rfl, kr26⟩ := (show ∃ r : Nat, v33 = .ref r ∧ T r = some 141 from hv33)
        refine mp_v (cx := []) (wr := []) hP hD hS hA [] [] rfl rfl rfl (by decide) (va_runV (As := [.ref r22, .int (nI 2), .ref r26]) (rest := []) F (N_RG_flip_8 l g _ T s22 pl hO hU r25 r22 r26 (106 + (i21 - 4)) (nI 2) 141 kr25 kr22 hn21 kr26 rfl) (cwV 3 hts (wg_app (wg_c kw_698 (wg_c kw_699 (wg_c kw_700 (wg_c kw_4 wg_n)))) kw_701) rfl rfl rfl (by decide +kernel) ⟨by decide, by decide⟩) (pn_W "LatticeKeys$Ring" (en_ok g) (ci := 4) (kn := 22) (fl := [(1, 8380417), (1, 8), (1, 8347681), (3, 23)]) hK hO kr25 rfl hP hD hS hA hE [] rfl rfl rfl) rfl rfl hl.1 rfl (lv_room (Nat.le_of_ble_eq_true rfl)) dDA_writeSmallVectors_90 ⟨by omega, by omega⟩) (fun  u22 H locs hu22 hP hD hS => ?_)
        obtain ⟨s23, pl⟩ := u22
        obtain ⟨⟨eq22, hFc22, -⟩, hO⟩ := hu22
        have hO : okn g T s23 pl := hO
        have hP : va_P g.1 vcl ([] ++ pl) _ := hP
        have hD : va_D _ ([] ++ pl) := hD
        have hFc22 : frm (M_RG_flip_8 141) s22 s23 := hFc22
        replace hR := bnd_step hR eq22
        have hF := frm_tr hF hFc22 (fun k hk => by unfold M_RG_flip_8 at hk; unfold M_DA_writeSmallVectors_0; omega)
        refine W.widen (k := 0) (n := 0) (by omega) (by omega) ?_
        refine lv_aload_n hx hb dDA_writeSmallVectors_93 rfl (lv_at hl 3 rfl) ?_
        refine nw_get (C := "LatticeKeys$Dsa") (TT := T_DA) (N := 17) hx hb hts (wg_ft i_DA) hown hK hO k_h0 (kn := 39) (ci := 6) (fl := [(3, 16), (3, 22), (3, 37), (3, 40), (3, 97), (3, 105), (3, 114), (3, 123), (3, 131), (3, 140), (3, 141), (3, 142), (3, 143), (3, 144), (3, 145), (3, 146), (3, 147)]) rfl hP rfl 10 (by decide) (hts _ (wg_t kw_175)) (fun _ h9 => h9) (cd := (3, 141)) rfl dDA_writeSmallVectors_94 (fun v34 hv34 => ?_)
        obtain ⟨r27, rfl, kr27⟩ := (show ∃ r : Nat, v34 = .ref r ∧ T r = some 141 from hv34)
        refine lv_aload_n hx hb dDA_writeSmallVectors_97 rfl (lv_at hl 4 rfl) ?_
        refine nw_get (C := "LatticeKeys$DsaSet") (TT := T_DS) (N := 17) hx hb hts (wg_ft i_DS) hown hK hO k_st (kn := 9) (ci := 2) (fl := [(1, 4), (1, 4), (1, 2), (1, 3), (1, 39), (1, 32), (1, 18), (1, 131072), (1, 44), (1, 6), (1, 95232), (1, 80), (1, 78), (1, 1312), (1, 2560), (1, 2336), (1, 2420)]) rfl hP rfl 3 (by decide) (hts _ (wg_t kw_310)) (fun _ h9 => h9) (cd := (1, 3)) rfl dDA_writeSmallVectors_98 (fun v35 hv35 => ?_)
        obtain rfl := (show v35 = .int (nI 3) from hv35)
        refine lv_aload_n hx hb dDA_writeSmallVectors_101 rfl (lv_at hl 5 rfl) ?_
        refine lv_sipush (v := nI 128) hx hb dDA_writeSmallVectors_102 (by decide) ?_
        refine lv_iload_n hx hb dDA_writeSmallVectors_105 rfl (lv_at hl 2 rfl) ?_
        refine lv_iload hx hb dDA_writeSmallVectors_106 (lv_at hl 1 rfl) ?_
        refine mi_imul hx hb dDA_writeSmallVectors_108 ?_
        refine mi_iadd hx hb dDA_writeSmallVectors_109 ?_
        refine mp_v (cx := []) (wr := []) hP hD hS hA [] [] rfl rfl rfl (by decide) (va_runS (As := [.ref r27, .int (nI 3), .ref sk, .int (nI (128 + (96 * i21)))]) (rest := []) F (N_BT_pack l g _ T s23 pl hO hU r27 sk 141 3 psk 2560 (128 + (96 * i21)) kr27 rfl k_sk n_sk (by omega) (by omega) (by omega)) (va_cwS 4 hts (wg_app (wg_c kw_702 (wg_c kw_645 (wg_c kw_22 wg_n))) kw_646) rfl rfl rfl (by decide +kernel) ⟨by decide, by decide⟩) (pp_S (en_ok g) hP hD hS hA hE [] rfl rfl) rfl rfl hl.1 rfl (lv_room (Nat.le_of_ble_eq_true rfl)) dDA_writeSmallVectors_110 ⟨by omega, by omega⟩) (fun  u23 H locs hu23 hP hD hS => ?_)
        obtain ⟨s24, pl⟩ := u23
        obtain ⟨⟨eq23, hFc23, -⟩, hO⟩ := hu23
        have hO : okn g T s24 pl := hO
        have hP : va_P g.1 vcl ([] ++ pl) _ := hP
        have hD : va_D _ ([] ++ pl) := hD
        have hFc23 : frm (M_BT_pack psk) s23 s24 := hFc23
        replace hR := bnd_step hR eq23
        have hF := frm_tr hF hFc23 (fun k hk => by unfold M_BT_pack at hk; unfold M_DA_writeSmallVectors_0; omega)
        refine W.widen (k := 0) (n := 0) (by omega) (by omega) ?_
        refine mi_iinc (k := 1) (x := i21) (d := 1) (y := i21 + 1) (lv' := [(4, .int (nI (i21 + 1))), (5, .ref r22), (3, .int (nI 96)), (0, .ref h0), (1, .ref st), (2, .ref sk)]) hx hb dDA_writeSmallVectors_113 hl rfl (by decide) rfl (by decide) rfl (fun ls hl => ?_)
        refine lv_goto (tgt := 11) hx hb dDA_writeSmallVectors_116 (by decide) ?_
        exact ih21 (i21 + 1) s24 pl ls H locs (by omega) hF hR (lv_sub hl [0, 2, 3, 4, 5] rfl) hO hP hD hS
      · replace hR := hR.trans (if_neg (Nat.not_le.mpr h23))
        refine lv_aload_n hx hb dDA_writeSmallVectors_34 rfl (lv_at hl 2 rfl) ?_
        refine nw_get (C := "LatticeKeys$Dsa") (TT := T_DA) (N := 17) hx hb hts (wg_ft i_DA) hown hK hO k_h0 (kn := 39) (ci := 6) (fl := [(3, 16), (3, 22), (3, 37), (3, 40), (3, 97), (3, 105), (3, 114), (3, 123), (3, 131), (3, 140), (3, 141), (3, 142), (3, 143), (3, 144), (3, 145), (3, 146), (3, 147)]) rfl hP rfl 4 (by decide) (hts _ (wg_t kw_169)) (fun _ h9 => h9) (cd := (3, 97)) rfl dDA_writeSmallVectors_35 (fun v36 hv36 => ?_)
        obtain ⟨r28, rfl, kr28⟩ := (show ∃ r : Nat, v36 = .ref r ∧ T r = some 97 from hv36)
        refine lv_iload hx hb dDA_writeSmallVectors_38 (lv_at hl 0 rfl) ?_
        refine nw_aald3 hx hb hK hO kr28 (k := 97) (b := 98) rfl hP (by omega) (by omega) dDA_writeSmallVectors_40 (fun r29 kr29 => ?_)
        have hn22 : nsp (98 + i21) = (0, 256, []) := rows_ok 98 7 (by decide) _ (by omega)
        refine lv_goto (tgt := 56) hx hb dDA_writeSmallVectors_41 (by decide) ?_
        refine lv_astore (lv' := [(5, .ref r29), (4, .int (nI i21)), (3, .int (nI 96)), (0, .ref h0), (1, .ref st), (2, .ref sk)]) hx hb dDA_writeSmallVectors_56 hl (by decide) rfl (fun ls hl => ?_)
        refine lv_aload_n hx hb dDA_writeSmallVectors_58 rfl (lv_at hl 3 rfl) ?_
        refine nw_get (C := "LatticeKeys$Dsa") (TT := T_DA) (N := 17) hx hb hts (wg_ft i_DA) hown hK hO k_h0 (kn := 39) (ci := 6) (fl := [(3, 16), (3, 22), (3, 37), (3, 40), (3, 97), (3, 105), (3, 114), (3, 123), (3, 131), (3, 140), (3, 141), (3, 142), (3, 143), (3, 144), (3, 145), (3, 146), (3, 147)]) rfl hP rfl 2 (by decide) (hts _ (wg_t kw_167)) (fun _ h9 => h9) (cd := (3, 37)) rfl dDA_writeSmallVectors_59 (fun v37 hv37 => ?_)
        obtain ⟨r30, rfl, kr30⟩ := (show ∃ r : Nat, v37 = .ref r ∧ T r = some 37 from hv37)
        refine lv_aload_n hx hb dDA_writeSmallVectors_62 rfl (lv_at hl 4 rfl) ?_
        refine lv_aload hx hb dDA_writeSmallVectors_63 (lv_at hl 0 rfl) ?_
        refine lv_aload_n hx hb dDA_writeSmallVectors_65 rfl (lv_at hl 3 rfl) ?_
        refine nw_get (C := "LatticeKeys$Dsa") (TT := T_DA) (N := 17) hx hb hts (wg_ft i_DA) hown hK hO k_h0 (kn := 39) (ci := 6) (fl := [(3, 16), (3, 22), (3, 37), (3, 40), (3, 97), (3, 105), (3, 114), (3, 123), (3, 131), (3, 140), (3, 141), (3, 142), (3, 143), (3, 144), (3, 145), (3, 146), (3, 147)]) rfl hP rfl 11 (by decide) (hts _ (wg_t kw_176)) (fun _ h9 => h9) (cd := (3, 142)) rfl dDA_writeSmallVectors_66 (fun v38 hv38 => ?_)
        obtain ⟨r31, rfl, kr31⟩ := (show ∃ r : Nat, v38 = .ref r ∧ T r = some 142 from hv38)
        refine lv_bipush (v := nI 32) hx hb dDA_writeSmallVectors_69 (by decide) ?_
        refine lv_iload hx hb dDA_writeSmallVectors_71 (lv_at hl 1 rfl) ?_
        refine mp_v (cx := []) (wr := []) hP hD hS hA [] [] rfl rfl rfl (by decide) (va_runV (As := [.ref st, .ref r29, .ref r31, .int (nI 32), .int (nI i21)]) (rest := []) F (N_SA_sampleSmall_0 l g _ T s21 pl hO hU r30 st r29 r31 (98 + i21) 142 128 32 (nI i21) kr30 k_st kr29 hn22 kr31 rfl (by omega) (by omega)) (cwV 5 hts (wg_app (wg_c kw_679 (wg_c kw_680 (wg_c kw_681 (wg_c kw_6 wg_n)))) kw_682) rfl rfl rfl (by decide +kernel) ⟨by decide, by decide⟩) (pn_W "LatticeKeys$DsaSampler" (en_ok g) (ci := 7) (kn := 37) (fl := [(3, 18), (3, 38)]) hK hO kr30 rfl hP hD hS hA hE [] rfl rfl rfl) rfl rfl hl.1 rfl (lv_room (Nat.le_of_ble_eq_true rfl)) dDA_writeSmallVectors_73 ⟨by omega, by omega⟩) (fun  u24 H locs hu24 hP hD hS => ?_)
        obtain ⟨s25, pl⟩ := u24
        obtain ⟨⟨eq24, hFc24, -⟩, hO⟩ := hu24
        have hO : okn g T s25 pl := hO
        have hP : va_P g.1 vcl ([] ++ pl) _ := hP
        have hD : va_D _ ([] ++ pl) := hD
        have hFc24 : frm (M_SA_sampleSmall_0 (98 + i21)) s21 s25 := hFc24
        replace hR := bnd_step hR eq24
        have hF := frm_tr hF hFc24 (fun k hk => by unfold M_SA_sampleSmall_0 at hk; unfold M_DA_writeSmallVectors_0; omega)
        refine W.widen (k := 0) (n := 0) (by omega) (by omega) ?_
        refine lv_aload_n hx hb dDA_writeSmallVectors_76 rfl (lv_at hl 3 rfl) ?_
        refine nw_get (C := "LatticeKeys$Dsa") (TT := T_DA) (N := 17) hx hb hts (wg_ft i_DA) hown hK hO k_h0 (kn := 39) (ci := 6) (fl := [(3, 16), (3, 22), (3, 37), (3, 40), (3, 97), (3, 105), (3, 114), (3, 123), (3, 131), (3, 140), (3, 141), (3, 142), (3, 143), (3, 144), (3, 145), (3, 146), (3, 147)]) rfl hP rfl 1 (by decide) (hts _ (wg_t kw_166)) (fun _ h9 => h9) (cd := (3, 22)) rfl dDA_writeSmallVectors_77 (fun v39 hv39 => ?_)
        obtain ⟨r32, rfl, kr32⟩ := (show ∃ r : Nat, v39 = .ref r ∧ T r = some 22 from hv39)
        refine lv_aload hx hb dDA_writeSmallVectors_80 (lv_at hl 0 rfl) ?_
        refine lv_aload_n hx hb dDA_writeSmallVectors_82 rfl (lv_at hl 4 rfl) ?_
        refine nw_get (C := "LatticeKeys$DsaSet") (TT := T_DS) (N := 17) hx hb hts (wg_ft i_DS) hown hK hO k_st (kn := 9) (ci := 2) (fl := [(1, 4), (1, 4), (1, 2), (1, 3), (1, 39), (1, 32), (1, 18), (1, 131072), (1, 44), (1, 6), (1, 95232), (1, 80), (1, 78), (1, 1312), (1, 2560), (1, 2336), (1, 2420)]) rfl hP rfl 2 (by decide) (hts _ (wg_t kw_307)) (fun _ h9 => h9) (cd := (1, 2)) rfl dDA_writeSmallVectors_83 (fun v40 hv40 => ?_)
        obtain rfl := (show v40 = .int (nI 2) from hv40)
        refine lv_aload_n hx hb dDA_writeSmallVectors_86 rfl (lv_at hl 3 rfl) ?_
        refine nw_get (C := "LatticeKeys$Dsa") (TT := T_DA) (N := 17) hx hb hts (wg_ft i_DA) hown hK hO k_h0 (kn := 39) (ci := 6) (fl := [(3, 16), (3, 22), (3, 37), (3, 40), (3, 97), (3, 105), (3, 114), (3, 123), (3, 131), (3, 140), (3, 141), (3, 142), (3, 143), (3, 144), (3, 145), (3, 146), (3, 147)]) rfl hP rfl 10 (by decide) (hts _ (wg_t kw_175)) (fun _ h9 => h9) (cd := (3, 141)) rfl dDA_writeSmallVectors_87 (fun v41 hv41 => ?_)
        obtain ⟨r33, rfl, kr33⟩ := (show ∃ r : Nat, v41 = .ref r ∧ T r = some 141 from hv41)
        refine mp_v (cx := []) (wr := []) hP hD hS hA [] [] rfl rfl rfl (by decide) (va_runV (As := [.ref r29, .int (nI 2), .ref r33]) (rest := []) F (N_RG_flip_8 l g _ T s25 pl hO hU r32 r29 r33 (98 + i21) (nI 2) 141 kr32 kr29 hn22 kr33 rfl) (cwV 3 hts (wg_app (wg_c kw_698 (wg_c kw_699 (wg_c kw_700 (wg_c kw_4 wg_n)))) kw_701) rfl rfl rfl (by decide +kernel) ⟨by decide, by decide⟩) (pn_W "LatticeKeys$Ring" (en_ok g) (ci := 4) (kn := 22) (fl := [(1, 8380417), (1, 8), (1, 8347681), (3, 23)]) hK hO kr32 rfl hP hD hS hA hE [] rfl rfl rfl) rfl rfl hl.1 rfl (lv_room (Nat.le_of_ble_eq_true rfl)) dDA_writeSmallVectors_90 ⟨by omega, by omega⟩) (fun  u25 H locs hu25 hP hD hS => ?_)
        obtain ⟨s26, pl⟩ := u25
        obtain ⟨⟨eq25, hFc25, -⟩, hO⟩ := hu25
        have hO : okn g T s26 pl := hO
        have hP : va_P g.1 vcl ([] ++ pl) _ := hP
        have hD : va_D _ ([] ++ pl) := hD
        have hFc25 : frm (M_RG_flip_8 141) s25 s26 := hFc25
        replace hR := bnd_step hR eq25
        have hF := frm_tr hF hFc25 (fun k hk => by unfold M_RG_flip_8 at hk; unfold M_DA_writeSmallVectors_0; omega)
        refine W.widen (k := 0) (n := 0) (by omega) (by omega) ?_
        refine lv_aload_n hx hb dDA_writeSmallVectors_93 rfl (lv_at hl 3 rfl) ?_
        refine nw_get (C := "LatticeKeys$Dsa") (TT := T_DA) (N := 17) hx hb hts (wg_ft i_DA) hown hK hO k_h0 (kn := 39) (ci := 6) (fl := [(3, 16), (3, 22), (3, 37), (3, 40), (3, 97), (3, 105), (3, 114), (3, 123), (3, 131), (3, 140), (3, 141), (3, 142), (3, 143), (3, 144), (3, 145), (3, 146), (3, 147)]) rfl hP rfl 10 (by decide) (hts _ (wg_t kw_175)) (fun _ h9 => h9) (cd := (3, 141)) rfl dDA_writeSmallVectors_94 (fun v42 hv42 => ?_)
        obtain ⟨r34, rfl, kr34⟩ := (show ∃ r : Nat, v42 = .ref r ∧ T r = some 141 from hv42)
        refine lv_aload_n hx hb dDA_writeSmallVectors_97 rfl (lv_at hl 4 rfl) ?_
        refine nw_get (C := "LatticeKeys$DsaSet") (TT := T_DS) (N := 17) hx hb hts (wg_ft i_DS) hown hK hO k_st (kn := 9) (ci := 2) (fl := [(1, 4), (1, 4), (1, 2), (1, 3), (1, 39), (1, 32), (1, 18), (1, 131072), (1, 44), (1, 6), (1, 95232), (1, 80), (1, 78), (1, 1312), (1, 2560), (1, 2336), (1, 2420)]) rfl hP rfl 3 (by decide) (hts _ (wg_t kw_310)) (fun _ h9 => h9) (cd := (1, 3)) rfl dDA_writeSmallVectors_98 (fun v43 hv43 => ?_)
        obtain rfl := (show v43 = .int (nI 3) from hv43)
        refine lv_aload_n hx hb dDA_writeSmallVectors_101 rfl (lv_at hl 5 rfl) ?_
        refine lv_sipush (v := nI 128) hx hb dDA_writeSmallVectors_102 (by decide) ?_
        refine lv_iload_n hx hb dDA_writeSmallVectors_105 rfl (lv_at hl 2 rfl) ?_
        refine lv_iload hx hb dDA_writeSmallVectors_106 (lv_at hl 1 rfl) ?_
        refine mi_imul hx hb dDA_writeSmallVectors_108 ?_
        refine mi_iadd hx hb dDA_writeSmallVectors_109 ?_
        refine mp_v (cx := []) (wr := []) hP hD hS hA [] [] rfl rfl rfl (by decide) (va_runS (As := [.ref r34, .int (nI 3), .ref sk, .int (nI (128 + (96 * i21)))]) (rest := []) F (N_BT_pack l g _ T s26 pl hO hU r34 sk 141 3 psk 2560 (128 + (96 * i21)) kr34 rfl k_sk n_sk (by omega) (by omega) (by omega)) (va_cwS 4 hts (wg_app (wg_c kw_702 (wg_c kw_645 (wg_c kw_22 wg_n))) kw_646) rfl rfl rfl (by decide +kernel) ⟨by decide, by decide⟩) (pp_S (en_ok g) hP hD hS hA hE [] rfl rfl) rfl rfl hl.1 rfl (lv_room (Nat.le_of_ble_eq_true rfl)) dDA_writeSmallVectors_110 ⟨by omega, by omega⟩) (fun  u26 H locs hu26 hP hD hS => ?_)
        obtain ⟨s27, pl⟩ := u26
        obtain ⟨⟨eq26, hFc26, -⟩, hO⟩ := hu26
        have hO : okn g T s27 pl := hO
        have hP : va_P g.1 vcl ([] ++ pl) _ := hP
        have hD : va_D _ ([] ++ pl) := hD
        have hFc26 : frm (M_BT_pack psk) s26 s27 := hFc26
        replace hR := bnd_step hR eq26
        have hF := frm_tr hF hFc26 (fun k hk => by unfold M_BT_pack at hk; unfold M_DA_writeSmallVectors_0; omega)
        refine W.widen (k := 0) (n := 0) (by omega) (by omega) ?_
        refine mi_iinc (k := 1) (x := i21) (d := 1) (y := i21 + 1) (lv' := [(4, .int (nI (i21 + 1))), (5, .ref r29), (3, .int (nI 96)), (0, .ref h0), (1, .ref st), (2, .ref sk)]) hx hb dDA_writeSmallVectors_113 hl rfl (by decide) rfl (by decide) rfl (fun ls hl => ?_)
        refine lv_goto (tgt := 11) hx hb dDA_writeSmallVectors_116 (by decide) ?_
        exact ih21 (i21 + 1) s27 pl ls H locs (by omega) hF hR (lv_sub hl [0, 2, 3, 4, 5] rfl) hO hP hD hS
  exact lp21 8 0 s pl ls _ _ (by omega) hF hR (lv_sub hl [0, 1, 2, 3, 4] rfl) hO hP hD hS
def M_DA_writeSmallVectors_1 (psk : Nat) (k : Nat) : Prop := (106 ≤ k ∧ k < 114) ∨ (98 ≤ k ∧ k < 105) ∨ k = 141 ∨ k = 18 ∨ k = psk ∨ (0 : Nat) = 1
noncomputable def F_DA_writeSmallVectors_1_L0 (psk : Nat) : Nat → Nat → Sto → Sto
  | 0, i21, s21 => s21
  | n21 + 1, i21, s21 => if 5 ≤ i21 then bnd (F_SA_sampleSmall_1 (106 + (i21 - 5)) 142 128 32 (nI i21) s21) fun s22 => bnd (F_RG_flip_8 (106 + (i21 - 5)) (nI 4) 141 s22) fun s23 => bnd (F_BT_pack 141 4 psk 4032 (128 + (128 * i21)) s23) fun s24 => F_DA_writeSmallVectors_1_L0 psk n21 (i21 + 1) s24 else bnd (F_SA_sampleSmall_1 (98 + i21) 142 128 32 (nI i21) s21) fun s25 => bnd (F_RG_flip_8 (98 + i21) (nI 4) 141 s25) fun s26 => bnd (F_BT_pack 141 4 psk 4032 (128 + (128 * i21)) s26) fun s27 => F_DA_writeSmallVectors_1_L0 psk n21 (i21 + 1) s27
noncomputable def F_DA_writeSmallVectors_1 (psk : Nat) (s : Sto) : Sto := F_DA_writeSmallVectors_1_L0 psk 11 0 s
set_option maxHeartbeats 8000000 in
set_option maxRecDepth 100000 in
theorem N_DA_writeSmallVectors_1 (l : Launch) (g : Gd) (sz : Nat) (T : TyN) (s : Sto) (pl : va_W) (hO : okn g T s pl) (hU : inj T) (h0 st sk : Nat) (psk : Nat) (k_h0 : T h0 = some 39) (k_st : T st = some 10) (k_sk : T sk = some psk) (n_sk : nsp psk = (1, 4032, []))  : Met l y_DA_writeSmallVectors w_DA_writeSmallVectors ({ frames := 5, cells := 0, slots := 0, locals := 151 } : Room) (va_Pc [.ref h0, .ref st, .ref sk] (pr (en g) g.1 vcl sz ([] ++ pl))) (va_Qv (fun (u : (Sto) × va_W) => (u.1 = F_DA_writeSmallVectors_1 psk s ∧ frm (M_DA_writeSmallVectors_1 psk) s u.1 ∧ True) ∧ okn g T u.1 u.2) (po g.1 vcl (va_A ([] ++ pl) sz) (fun (u : (Sto) × va_W) => [] ++ u.2)) (va_A ([] ++ pl) sz)) 0 0 (va_A ([] ++ pl) sz) := by
  refine mc_entry (cc := c_DA_writeSmallVectors) (maxL := 6) (ret := none) (by decide) rfl (Nat.le_of_ble_eq_true rfl) ?_
  intro p e s0 m args below meth c ls F hr hlk hnm hsz hP hD hE hA hl
  obtain ⟨hx, hb, hml, hown, hts⟩ := id F
  have hK := hE.1
  generalize va_A ([] ++ pl) sz = A at hD hE hA ⊢
  have hS : va_S A s0.heap s0.heap [] := va_S.rf
  have hl : lv_has ls 6 [(0, .ref h0), (1, .ref st), (2, .ref sk)] := hl
  have hR : F_DA_writeSmallVectors_1 psk s = F_DA_writeSmallVectors_1 psk s := rfl
  have hF : frm (M_DA_writeSmallVectors_1 psk) s s := frm_rf
  refine lv_bipush (v := nI 32) hx hb dDA_writeSmallVectors_0 (by decide) ?_
  refine lv_aload_n hx hb dDA_writeSmallVectors_2 rfl (lv_at hl 1 rfl) ?_
  refine nw_get (C := "LatticeKeys$DsaSet") (TT := T_DS) (N := 17) hx hb hts (wg_ft i_DS) hown hK hO k_st (kn := 10) (ci := 2) (fl := [(1, 6), (1, 5), (1, 4), (1, 4), (1, 49), (1, 48), (1, 20), (1, 524288), (1, 16), (1, 4), (1, 261888), (1, 55), (1, 196), (1, 1952), (1, 4032), (1, 3248), (1, 3309)]) rfl hP rfl 3 (by decide) (hts _ (wg_t kw_310)) (fun _ h9 => h9) (cd := (1, 4)) rfl dDA_writeSmallVectors_3 (fun v21 hv21 => ?_)
  obtain rfl := (show v21 = .int (nI 4) from hv21)
  refine mi_imul hx hb dDA_writeSmallVectors_6 ?_
  refine mi_as (show nI (32 * 4) = nI 128 from rfl) ?_
  refine lv_istore_n (lv' := [(3, .int (nI 128)), (0, .ref h0), (1, .ref st), (2, .ref sk)]) hx hb dDA_writeSmallVectors_7 rfl hl (by decide) rfl (fun ls hl => ?_)
  refine lv_iconst (v := nI 0) hx hb dDA_writeSmallVectors_8 (by decide) ?_
  refine lv_istore (lv' := [(4, .int (nI 0)), (3, .int (nI 128)), (0, .ref h0), (1, .ref st), (2, .ref sk)]) hx hb dDA_writeSmallVectors_9 hl (by decide) rfl (fun ls hl => ?_)
  have lp21 : ∀ (n21 : Nat) (i21 : Nat) (s21 : Sto) (pl : va_W) (ls : Array Slot) (H : Heap) (locs : List Loc), n21 + i21 = 11 → frm (M_DA_writeSmallVectors_1 psk) s s21 → F_DA_writeSmallVectors_1 psk s = F_DA_writeSmallVectors_1_L0 psk n21 i21 s21 → lv_has ls 6 [(4, .int (nI i21)), (3, .int (nI 128)), (0, .ref h0), (1, .ref st), (2, .ref sk)] → okn g T s21 pl → va_P g.1 vcl ([] ++ pl) H → va_D A ([] ++ pl) → va_S A s0.heap H locs → W p l e ({ frames := 5, cells := 0, slots := 0, locals := 151 } : Room) s0 m args below meth c H locs 0 0 (MQ below (va_Qv (fun (u : (Sto) × va_W) => (u.1 = F_DA_writeSmallVectors_1 psk s ∧ frm (M_DA_writeSmallVectors_1 psk) s u.1 ∧ True) ∧ okn g T u.1 u.2) (po g.1 vcl A (fun (u : (Sto) × va_W) => [] ++ u.2)) A) args s0 0 0 A) (F0 m 11 ls []) := by
    intro n21
    induction n21 with
    | zero =>
      intro i21 s21 pl ls H locs hm21 hF hR hl hO hP hD hS
      refine lv_iload hx hb dDA_writeSmallVectors_11 (lv_at hl 0 rfl) ?_
      refine lv_aload_n hx hb dDA_writeSmallVectors_13 rfl (lv_at hl 3 rfl) ?_
      refine nw_get (C := "LatticeKeys$DsaSet") (TT := T_DS) (N := 17) hx hb hts (wg_ft i_DS) hown hK hO k_st (kn := 10) (ci := 2) (fl := [(1, 6), (1, 5), (1, 4), (1, 4), (1, 49), (1, 48), (1, 20), (1, 524288), (1, 16), (1, 4), (1, 261888), (1, 55), (1, 196), (1, 1952), (1, 4032), (1, 3248), (1, 3309)]) rfl hP rfl 1 (by decide) (hts _ (wg_t kw_305)) (fun _ h9 => h9) (cd := (1, 5)) rfl dDA_writeSmallVectors_14 (fun v22 hv22 => ?_)
      obtain rfl := (show v22 = .int (nI 5) from hv22)
      refine lv_aload_n hx hb dDA_writeSmallVectors_17 rfl (lv_at hl 3 rfl) ?_
      refine nw_get (C := "LatticeKeys$DsaSet") (TT := T_DS) (N := 17) hx hb hts (wg_ft i_DS) hown hK hO k_st (kn := 10) (ci := 2) (fl := [(1, 6), (1, 5), (1, 4), (1, 4), (1, 49), (1, 48), (1, 20), (1, 524288), (1, 16), (1, 4), (1, 261888), (1, 55), (1, 196), (1, 1952), (1, 4032), (1, 3248), (1, 3309)]) rfl hP rfl 0 (by decide) (hts _ (wg_t kw_302)) (fun _ h9 => h9) (cd := (1, 6)) rfl dDA_writeSmallVectors_18 (fun v23 hv23 => ?_)
      obtain rfl := (show v23 = .int (nI 6) from hv23)
      refine mi_iadd hx hb dDA_writeSmallVectors_21 ?_
      refine mi_as (show nI (5 + 6) = nI 11 from rfl) ?_
      refine mi_ge (tgt := 119) hx hb dDA_writeSmallVectors_22 (by decide) (by omega) (by omega) (fun h21 => ?_) (fun h21 => absurd h21 (by omega))
      exact mp_vret hx hb hr hlk hP hD hS (s21, pl) ⟨⟨hR.symm, hF, trivial⟩, hO⟩ [] rfl rfl rfl (by omega) (by omega) dDA_writeSmallVectors_119
    | succ n21 ih21 =>
      intro i21 s21 pl ls H locs hm21 hF hR hl hO hP hD hS
      refine lv_iload hx hb dDA_writeSmallVectors_11 (lv_at hl 0 rfl) ?_
      refine lv_aload_n hx hb dDA_writeSmallVectors_13 rfl (lv_at hl 3 rfl) ?_
      refine nw_get (C := "LatticeKeys$DsaSet") (TT := T_DS) (N := 17) hx hb hts (wg_ft i_DS) hown hK hO k_st (kn := 10) (ci := 2) (fl := [(1, 6), (1, 5), (1, 4), (1, 4), (1, 49), (1, 48), (1, 20), (1, 524288), (1, 16), (1, 4), (1, 261888), (1, 55), (1, 196), (1, 1952), (1, 4032), (1, 3248), (1, 3309)]) rfl hP rfl 1 (by decide) (hts _ (wg_t kw_305)) (fun _ h9 => h9) (cd := (1, 5)) rfl dDA_writeSmallVectors_14 (fun v24 hv24 => ?_)
      obtain rfl := (show v24 = .int (nI 5) from hv24)
      refine lv_aload_n hx hb dDA_writeSmallVectors_17 rfl (lv_at hl 3 rfl) ?_
      refine nw_get (C := "LatticeKeys$DsaSet") (TT := T_DS) (N := 17) hx hb hts (wg_ft i_DS) hown hK hO k_st (kn := 10) (ci := 2) (fl := [(1, 6), (1, 5), (1, 4), (1, 4), (1, 49), (1, 48), (1, 20), (1, 524288), (1, 16), (1, 4), (1, 261888), (1, 55), (1, 196), (1, 1952), (1, 4032), (1, 3248), (1, 3309)]) rfl hP rfl 0 (by decide) (hts _ (wg_t kw_302)) (fun _ h9 => h9) (cd := (1, 6)) rfl dDA_writeSmallVectors_18 (fun v25 hv25 => ?_)
      obtain rfl := (show v25 = .int (nI 6) from hv25)
      refine mi_iadd hx hb dDA_writeSmallVectors_21 ?_
      refine mi_as (show nI (5 + 6) = nI 11 from rfl) ?_
      refine mi_ge (tgt := 119) hx hb dDA_writeSmallVectors_22 (by decide) (by omega) (by omega) (fun h22 => absurd h22 (by omega)) (fun h22 => ?_)
      refine lv_iload hx hb dDA_writeSmallVectors_25 (lv_at hl 0 rfl) ?_
      refine lv_aload_n hx hb dDA_writeSmallVectors_27 rfl (lv_at hl 3 rfl) ?_
      refine nw_get (C := "LatticeKeys$DsaSet") (TT := T_DS) (N := 17) hx hb hts (wg_ft i_DS) hown hK hO k_st (kn := 10) (ci := 2) (fl := [(1, 6), (1, 5), (1, 4), (1, 4), (1, 49), (1, 48), (1, 20), (1, 524288), (1, 16), (1, 4), (1, 261888), (1, 55), (1, 196), (1, 1952), (1, 4032), (1, 3248), (1, 3309)]) rfl hP rfl 1 (by decide) (hts _ (wg_t kw_305)) (fun _ h9 => h9) (cd := (1, 5)) rfl dDA_writeSmallVectors_28 (fun v26 hv26 => ?_)
      obtain rfl := (show v26 = .int (nI 5) from hv26)
      refine mi_ge (tgt := 44) hx hb dDA_writeSmallVectors_31 (by decide) (by omega) (by omega) (fun h23 => ?_) (fun h23 => ?_)
      · replace hR := hR.trans (if_pos h23)
        refine lv_aload_n hx hb dDA_writeSmallVectors_44 rfl (lv_at hl 2 rfl) ?_
        refine nw_get (C := "LatticeKeys$Dsa") (TT := T_DA) (N := 17) hx hb hts (wg_ft i_DA) hown hK hO k_h0 (kn := 39) (ci := 6) (fl := [(3, 16), (3, 22), (3, 37), (3, 40), (3, 97), (3, 105), (3, 114), (3, 123), (3, 131), (3, 140), (3, 141), (3, 142), (3, 143), (3, 144), (3, 145), (3, 146), (3, 147)]) rfl hP rfl 5 (by decide) (hts _ (wg_t kw_170)) (fun _ h9 => h9) (cd := (3, 105)) rfl dDA_writeSmallVectors_45 (fun v27 hv27 => ?_)
        obtain ⟨r21, rfl, kr21⟩ := (show ∃ r : Nat, v27 = .ref r ∧ T r = some 105 from hv27)
        refine lv_iload hx hb dDA_writeSmallVectors_48 (lv_at hl 0 rfl) ?_
        refine lv_aload_n hx hb dDA_writeSmallVectors_50 rfl (lv_at hl 3 rfl) ?_
        refine nw_get (C := "LatticeKeys$DsaSet") (TT := T_DS) (N := 17) hx hb hts (wg_ft i_DS) hown hK hO k_st (kn := 10) (ci := 2) (fl := [(1, 6), (1, 5), (1, 4), (1, 4), (1, 49), (1, 48), (1, 20), (1, 524288), (1, 16), (1, 4), (1, 261888), (1, 55), (1, 196), (1, 1952), (1, 4032), (1, 3248), (1, 3309)]) rfl hP rfl 1 (by decide) (hts _ (wg_t kw_305)) (fun _ h9 => h9) (cd := (1, 5)) rfl dDA_writeSmallVectors_51 (fun v28 hv28 => ?_)
        obtain rfl := (show v28 = .int (nI 5) from hv28)
        refine mi_isub hx hb dDA_writeSmallVectors_54 (by omega) ?_
        refine nw_aald3 hx hb hK hO kr21 (k := 105) (b := 106) rfl hP (by omega) (by omega) dDA_writeSmallVectors_55 (fun r22 kr22 => ?_)
        have hn21 : nsp (106 + (i21 - 5)) = (0, 256, []) := rows_ok 106 8 (by decide) _ (by omega)
        refine lv_astore (lv' := [(5, .ref r22), (4, .int (nI i21)), (3, .int (nI 128)), (0, .ref h0), (1, .ref st), (2, .ref sk)]) hx hb dDA_writeSmallVectors_56 hl (by decide) rfl (fun ls hl => ?_)
        refine lv_aload_n hx hb dDA_writeSmallVectors_58 rfl (lv_at hl 3 rfl) ?_
        refine nw_get (C := "LatticeKeys$Dsa") (TT := T_DA) (N := 17) hx hb hts (wg_ft i_DA) hown hK hO k_h0 (kn := 39) (ci := 6) (fl := [(3, 16), (3, 22), (3, 37), (3, 40), (3, 97), (3, 105), (3, 114), (3, 123), (3, 131), (3, 140), (3, 141), (3, 142), (3, 143), (3, 144), (3, 145), (3, 146), (3, 147)]) rfl hP rfl 2 (by decide) (hts _ (wg_t kw_167)) (fun _ h9 => h9) (cd := (3, 37)) rfl dDA_writeSmallVectors_59 (fun v29 hv29 => ?_)
        obtain ⟨r23, rfl, kr23⟩ := (show ∃ r : Nat, v29 = .ref r ∧ T r = some 37 from hv29)
        refine lv_aload_n hx hb dDA_writeSmallVectors_62 rfl (lv_at hl 4 rfl) ?_
        refine lv_aload hx hb dDA_writeSmallVectors_63 (lv_at hl 0 rfl) ?_
        refine lv_aload_n hx hb dDA_writeSmallVectors_65 rfl (lv_at hl 3 rfl) ?_
        refine nw_get (C := "LatticeKeys$Dsa") (TT := T_DA) (N := 17) hx hb hts (wg_ft i_DA) hown hK hO k_h0 (kn := 39) (ci := 6) (fl := [(3, 16), (3, 22), (3, 37), (3, 40), (3, 97), (3, 105), (3, 114), (3, 123), (3, 131), (3, 140), (3, 141), (3, 142), (3, 143), (3, 144), (3, 145), (3, 146), (3, 147)]) rfl hP rfl 11 (by decide) (hts _ (wg_t kw_176)) (fun _ h9 => h9) (cd := (3, 142)) rfl dDA_writeSmallVectors_66 (fun v30 hv30 => ?_)
        obtain ⟨r24, rfl, kr24⟩ := (show ∃ r : Nat, v30 = .ref r ∧ T r = some 142 from hv30)
        refine lv_bipush (v := nI 32) hx hb dDA_writeSmallVectors_69 (by decide) ?_
        refine lv_iload hx hb dDA_writeSmallVectors_71 (lv_at hl 1 rfl) ?_
        refine mp_v (cx := []) (wr := []) hP hD hS hA [] [] rfl rfl rfl (by decide) (va_runV (As := [.ref st, .ref r22, .ref r24, .int (nI 32), .int (nI i21)]) (rest := []) F (N_SA_sampleSmall_1 l g _ T s21 pl hO hU r23 st r22 r24 (106 + (i21 - 5)) 142 128 32 (nI i21) kr23 k_st kr22 hn21 kr24 rfl (by omega) (by omega)) (cwV 5 hts (wg_app (wg_c kw_679 (wg_c kw_680 (wg_c kw_681 (wg_c kw_6 wg_n)))) kw_682) rfl rfl rfl (by decide +kernel) ⟨by decide, by decide⟩) (pn_W "LatticeKeys$DsaSampler" (en_ok g) (ci := 7) (kn := 37) (fl := [(3, 18), (3, 38)]) hK hO kr23 rfl hP hD hS hA hE [] rfl rfl rfl) rfl rfl hl.1 rfl (lv_room (Nat.le_of_ble_eq_true rfl)) dDA_writeSmallVectors_73 ⟨by omega, by omega⟩) (fun  u21 H locs hu21 hP hD hS => ?_)
        obtain ⟨s22, pl⟩ := u21
        obtain ⟨⟨eq21, hFc21, -⟩, hO⟩ := hu21
        have hO : okn g T s22 pl := hO
        have hP : va_P g.1 vcl ([] ++ pl) _ := hP
        have hD : va_D _ ([] ++ pl) := hD
        have hFc21 : frm (M_SA_sampleSmall_1 (106 + (i21 - 5))) s21 s22 := hFc21
        replace hR := bnd_step hR eq21
        have hF := frm_tr hF hFc21 (fun k hk => by unfold M_SA_sampleSmall_1 at hk; unfold M_DA_writeSmallVectors_1; omega)
        refine W.widen (k := 0) (n := 0) (by omega) (by omega) ?_
        refine lv_aload_n hx hb dDA_writeSmallVectors_76 rfl (lv_at hl 3 rfl) ?_
        refine nw_get (C := "LatticeKeys$Dsa") (TT := T_DA) (N := 17) hx hb hts (wg_ft i_DA) hown hK hO k_h0 (kn := 39) (ci := 6) (fl := [(3, 16), (3, 22), (3, 37), (3, 40), (3, 97), (3, 105), (3, 114), (3, 123), (3, 131), (3, 140), (3, 141), (3, 142), (3, 143), (3, 144), (3, 145), (3, 146), (3, 147)]) rfl hP rfl 1 (by decide) (hts _ (wg_t kw_166)) (fun _ h9 => h9) (cd := (3, 22)) rfl dDA_writeSmallVectors_77 (fun v31 hv31 => ?_)
        obtain ⟨r25, rfl, kr25⟩ := (show ∃ r : Nat, v31 = .ref r ∧ T r = some 22 from hv31)
        refine lv_aload hx hb dDA_writeSmallVectors_80 (lv_at hl 0 rfl) ?_
        refine lv_aload_n hx hb dDA_writeSmallVectors_82 rfl (lv_at hl 4 rfl) ?_
        refine nw_get (C := "LatticeKeys$DsaSet") (TT := T_DS) (N := 17) hx hb hts (wg_ft i_DS) hown hK hO k_st (kn := 10) (ci := 2) (fl := [(1, 6), (1, 5), (1, 4), (1, 4), (1, 49), (1, 48), (1, 20), (1, 524288), (1, 16), (1, 4), (1, 261888), (1, 55), (1, 196), (1, 1952), (1, 4032), (1, 3248), (1, 3309)]) rfl hP rfl 2 (by decide) (hts _ (wg_t kw_307)) (fun _ h9 => h9) (cd := (1, 4)) rfl dDA_writeSmallVectors_83 (fun v32 hv32 => ?_)
        obtain rfl := (show v32 = .int (nI 4) from hv32)
        refine lv_aload_n hx hb dDA_writeSmallVectors_86 rfl (lv_at hl 3 rfl) ?_
        refine nw_get (C := "LatticeKeys$Dsa") (TT := T_DA) (N := 17) hx hb hts (wg_ft i_DA) hown hK hO k_h0 (kn := 39) (ci := 6) (fl := [(3, 16), (3, 22), (3, 37), (3, 40), (3, 97), (3, 105), (3, 114), (3, 123), (3, 131), (3, 140), (3, 141), (3, 142), (3, 143), (3, 144), (3, 145), (3, 146), (3, 147)]) rfl hP rfl 10 (by decide) (hts _ (wg_t kw_175)) (fun _ h9 => h9) (cd := (3, 141)) rfl dDA_writeSmallVectors_87 (fun v33 hv33 => ?_)
        obtain ⟨r26, rfl, kr26⟩ := (show ∃ r : Nat, v33 = .ref r ∧ T r = some 141 from hv33)
        refine mp_v (cx := []) (wr := []) hP hD hS hA [] [] rfl rfl rfl (by decide) (va_runV (As := [.ref r22, .int (nI 4), .ref r26]) (rest := []) F (N_RG_flip_8 l g _ T s22 pl hO hU r25 r22 r26 (106 + (i21 - 5)) (nI 4) 141 kr25 kr22 hn21 kr26 rfl) (cwV 3 hts (wg_app (wg_c kw_698 (wg_c kw_699 (wg_c kw_700 (wg_c kw_4 wg_n)))) kw_701) rfl rfl rfl (by decide +kernel) ⟨by decide, by decide⟩) (pn_W "LatticeKeys$Ring" (en_ok g) (ci := 4) (kn := 22) (fl := [(1, 8380417), (1, 8), (1, 8347681), (3, 23)]) hK hO kr25 rfl hP hD hS hA hE [] rfl rfl rfl) rfl rfl hl.1 rfl (lv_room (Nat.le_of_ble_eq_true rfl)) dDA_writeSmallVectors_90 ⟨by omega, by omega⟩) (fun  u22 H locs hu22 hP hD hS => ?_)
        obtain ⟨s23, pl⟩ := u22
        obtain ⟨⟨eq22, hFc22, -⟩, hO⟩ := hu22
        have hO : okn g T s23 pl := hO
        have hP : va_P g.1 vcl ([] ++ pl) _ := hP
        have hD : va_D _ ([] ++ pl) := hD
        have hFc22 : frm (M_RG_flip_8 141) s22 s23 := hFc22
        replace hR := bnd_step hR eq22
        have hF := frm_tr hF hFc22 (fun k hk => by unfold M_RG_flip_8 at hk; unfold M_DA_writeSmallVectors_1; omega)
        refine W.widen (k := 0) (n := 0) (by omega) (by omega) ?_
        refine lv_aload_n hx hb dDA_writeSmallVectors_93 rfl (lv_at hl 3 rfl) ?_
        refine nw_get (C := "LatticeKeys$Dsa") (TT := T_DA) (N := 17) hx hb hts (wg_ft i_DA) hown hK hO k_h0 (kn := 39) (ci := 6) (fl := [(3, 16), (3, 22), (3, 37), (3, 40), (3, 97), (3, 105), (3, 114), (3, 123), (3, 131), (3, 140), (3, 141), (3, 142), (3, 143), (3, 144), (3, 145), (3, 146), (3, 147)]) rfl hP rfl 10 (by decide) (hts _ (wg_t kw_175)) (fun _ h9 => h9) (cd := (3, 141)) rfl dDA_writeSmallVectors_94 (fun v34 hv34 => ?_)
        obtain ⟨r27, rfl, kr27⟩ := (show ∃ r : Nat, v34 = .ref r ∧ T r = some 141 from hv34)
        refine lv_aload_n hx hb dDA_writeSmallVectors_97 rfl (lv_at hl 4 rfl) ?_
        refine nw_get (C := "LatticeKeys$DsaSet") (TT := T_DS) (N := 17) hx hb hts (wg_ft i_DS) hown hK hO k_st (kn := 10) (ci := 2) (fl := [(1, 6), (1, 5), (1, 4), (1, 4), (1, 49), (1, 48), (1, 20), (1, 524288), (1, 16), (1, 4), (1, 261888), (1, 55), (1, 196), (1, 1952), (1, 4032), (1, 3248), (1, 3309)]) rfl hP rfl 3 (by decide) (hts _ (wg_t kw_310)) (fun _ h9 => h9) (cd := (1, 4)) rfl dDA_writeSmallVectors_98 (fun v35 hv35 => ?_)
        obtain rfl := (show v35 = .int (nI 4) from hv35)
        refine lv_aload_n hx hb dDA_writeSmallVectors_101 rfl (lv_at hl 5 rfl) ?_
        refine lv_sipush (v := nI 128) hx hb dDA_writeSmallVectors_102 (by decide) ?_
        refine lv_iload_n hx hb dDA_writeSmallVectors_105 rfl (lv_at hl 2 rfl) ?_
        refine lv_iload hx hb dDA_writeSmallVectors_106 (lv_at hl 1 rfl) ?_
        refine mi_imul hx hb dDA_writeSmallVectors_108 ?_
        refine mi_iadd hx hb dDA_writeSmallVectors_109 ?_
        refine mp_v (cx := []) (wr := []) hP hD hS hA [] [] rfl rfl rfl (by decide) (va_runS (As := [.ref r27, .int (nI 4), .ref sk, .int (nI (128 + (128 * i21)))]) (rest := []) F (N_BT_pack l g _ T s23 pl hO hU r27 sk 141 4 psk 4032 (128 + (128 * i21)) kr27 rfl k_sk n_sk (by omega) (by omega) (by omega)) (va_cwS 4 hts (wg_app (wg_c kw_702 (wg_c kw_645 (wg_c kw_22 wg_n))) kw_646) rfl rfl rfl (by decide +kernel) ⟨by decide, by decide⟩) (pp_S (en_ok g) hP hD hS hA hE [] rfl rfl) rfl rfl hl.1 rfl (lv_room (Nat.le_of_ble_eq_true rfl)) dDA_writeSmallVectors_110 ⟨by omega, by omega⟩) (fun  u23 H locs hu23 hP hD hS => ?_)
        obtain ⟨s24, pl⟩ := u23
        obtain ⟨⟨eq23, hFc23, -⟩, hO⟩ := hu23
        have hO : okn g T s24 pl := hO
        have hP : va_P g.1 vcl ([] ++ pl) _ := hP
        have hD : va_D _ ([] ++ pl) := hD
        have hFc23 : frm (M_BT_pack psk) s23 s24 := hFc23
        replace hR := bnd_step hR eq23
        have hF := frm_tr hF hFc23 (fun k hk => by unfold M_BT_pack at hk; unfold M_DA_writeSmallVectors_1; omega)
        refine W.widen (k := 0) (n := 0) (by omega) (by omega) ?_
        refine mi_iinc (k := 1) (x := i21) (d := 1) (y := i21 + 1) (lv' := [(4, .int (nI (i21 + 1))), (5, .ref r22), (3, .int (nI 128)), (0, .ref h0), (1, .ref st), (2, .ref sk)]) hx hb dDA_writeSmallVectors_113 hl rfl (by decide) rfl (by decide) rfl (fun ls hl => ?_)
        refine lv_goto (tgt := 11) hx hb dDA_writeSmallVectors_116 (by decide) ?_
        exact ih21 (i21 + 1) s24 pl ls H locs (by omega) hF hR (lv_sub hl [0, 2, 3, 4, 5] rfl) hO hP hD hS
      · replace hR := hR.trans (if_neg (Nat.not_le.mpr h23))
        refine lv_aload_n hx hb dDA_writeSmallVectors_34 rfl (lv_at hl 2 rfl) ?_
        refine nw_get (C := "LatticeKeys$Dsa") (TT := T_DA) (N := 17) hx hb hts (wg_ft i_DA) hown hK hO k_h0 (kn := 39) (ci := 6) (fl := [(3, 16), (3, 22), (3, 37), (3, 40), (3, 97), (3, 105), (3, 114), (3, 123), (3, 131), (3, 140), (3, 141), (3, 142), (3, 143), (3, 144), (3, 145), (3, 146), (3, 147)]) rfl hP rfl 4 (by decide) (hts _ (wg_t kw_169)) (fun _ h9 => h9) (cd := (3, 97)) rfl dDA_writeSmallVectors_35 (fun v36 hv36 => ?_)
        obtain ⟨r28, rfl, kr28⟩ := (show ∃ r : Nat, v36 = .ref r ∧ T r = some 97 from hv36)
        refine lv_iload hx hb dDA_writeSmallVectors_38 (lv_at hl 0 rfl) ?_
        refine nw_aald3 hx hb hK hO kr28 (k := 97) (b := 98) rfl hP (by omega) (by omega) dDA_writeSmallVectors_40 (fun r29 kr29 => ?_)
        have hn22 : nsp (98 + i21) = (0, 256, []) := rows_ok 98 7 (by decide) _ (by omega)
        refine lv_goto (tgt := 56) hx hb dDA_writeSmallVectors_41 (by decide) ?_
        refine lv_astore (lv' := [(5, .ref r29), (4, .int (nI i21)), (3, .int (nI 128)), (0, .ref h0), (1, .ref st), (2, .ref sk)]) hx hb dDA_writeSmallVectors_56 hl (by decide) rfl (fun ls hl => ?_)
        refine lv_aload_n hx hb dDA_writeSmallVectors_58 rfl (lv_at hl 3 rfl) ?_
        refine nw_get (C := "LatticeKeys$Dsa") (TT := T_DA) (N := 17) hx hb hts (wg_ft i_DA) hown hK hO k_h0 (kn := 39) (ci := 6) (fl := [(3, 16), (3, 22), (3, 37), (3, 40), (3, 97), (3, 105), (3, 114), (3, 123), (3, 131), (3, 140), (3, 141), (3, 142), (3, 143), (3, 144), (3, 145), (3, 146), (3, 147)]) rfl hP rfl 2 (by decide) (hts _ (wg_t kw_167)) (fun _ h9 => h9) (cd := (3, 37)) rfl dDA_writeSmallVectors_59 (fun v37 hv37 => ?_)
        obtain ⟨r30, rfl, kr30⟩ := (show ∃ r : Nat, v37 = .ref r ∧ T r = some 37 from hv37)
        refine lv_aload_n hx hb dDA_writeSmallVectors_62 rfl (lv_at hl 4 rfl) ?_
        refine lv_aload hx hb dDA_writeSmallVectors_63 (lv_at hl 0 rfl) ?_
        refine lv_aload_n hx hb dDA_writeSmallVectors_65 rfl (lv_at hl 3 rfl) ?_
        refine nw_get (C := "LatticeKeys$Dsa") (TT := T_DA) (N := 17) hx hb hts (wg_ft i_DA) hown hK hO k_h0 (kn := 39) (ci := 6) (fl := [(3, 16), (3, 22), (3, 37), (3, 40), (3, 97), (3, 105), (3, 114), (3, 123), (3, 131), (3, 140), (3, 141), (3, 142), (3, 143), (3, 144), (3, 145), (3, 146), (3, 147)]) rfl hP rfl 11 (by decide) (hts _ (wg_t kw_176)) (fun _ h9 => h9) (cd := (3, 142)) rfl dDA_writeSmallVectors_66 (fun v38 hv38 => ?_)
        obtain ⟨r31, rfl, kr31⟩ := (show ∃ r : Nat, v38 = .ref r ∧ T r = some 142 from hv38)
        refine lv_bipush (v := nI 32) hx hb dDA_writeSmallVectors_69 (by decide) ?_
        refine lv_iload hx hb dDA_writeSmallVectors_71 (lv_at hl 1 rfl) ?_
        refine mp_v (cx := []) (wr := []) hP hD hS hA [] [] rfl rfl rfl (by decide) (va_runV (As := [.ref st, .ref r29, .ref r31, .int (nI 32), .int (nI i21)]) (rest := []) F (N_SA_sampleSmall_1 l g _ T s21 pl hO hU r30 st r29 r31 (98 + i21) 142 128 32 (nI i21) kr30 k_st kr29 hn22 kr31 rfl (by omega) (by omega)) (cwV 5 hts (wg_app (wg_c kw_679 (wg_c kw_680 (wg_c kw_681 (wg_c kw_6 wg_n)))) kw_682) rfl rfl rfl (by decide +kernel) ⟨by decide, by decide⟩) (pn_W "LatticeKeys$DsaSampler" (en_ok g) (ci := 7) (kn := 37) (fl := [(3, 18), (3, 38)]) hK hO kr30 rfl hP hD hS hA hE [] rfl rfl rfl) rfl rfl hl.1 rfl (lv_room (Nat.le_of_ble_eq_true rfl)) dDA_writeSmallVectors_73 ⟨by omega, by omega⟩) (fun  u24 H locs hu24 hP hD hS => ?_)
        obtain ⟨s25, pl⟩ := u24
        obtain ⟨⟨eq24, hFc24, -⟩, hO⟩ := hu24
        have hO : okn g T s25 pl := hO
        have hP : va_P g.1 vcl ([] ++ pl) _ := hP
        have hD : va_D _ ([] ++ pl) := hD
        have hFc24 : frm (M_SA_sampleSmall_1 (98 + i21)) s21 s25 := hFc24
        replace hR := bnd_step hR eq24
        have hF := frm_tr hF hFc24 (fun k hk => by unfold M_SA_sampleSmall_1 at hk; unfold M_DA_writeSmallVectors_1; omega)
        refine W.widen (k := 0) (n := 0) (by omega) (by omega) ?_
        refine lv_aload_n hx hb dDA_writeSmallVectors_76 rfl (lv_at hl 3 rfl) ?_
        refine nw_get (C := "LatticeKeys$Dsa") (TT := T_DA) (N := 17) hx hb hts (wg_ft i_DA) hown hK hO k_h0 (kn := 39) (ci := 6) (fl := [(3, 16), (3, 22), (3, 37), (3, 40), (3, 97), (3, 105), (3, 114), (3, 123), (3, 131), (3, 140), (3, 141), (3, 142), (3, 143), (3, 144), (3, 145), (3, 146), (3, 147)]) rfl hP rfl 1 (by decide) (hts _ (wg_t kw_166)) (fun _ h9 => h9) (cd := (3, 22)) rfl dDA_writeSmallVectors_77 (fun v39 hv39 => ?_)
        obtain ⟨r32, rfl, kr32⟩ := (show ∃ r : Nat, v39 = .ref r ∧ T r = some 22 from hv39)
        refine lv_aload hx hb dDA_writeSmallVectors_80 (lv_at hl 0 rfl) ?_
        refine lv_aload_n hx hb dDA_writeSmallVectors_82 rfl (lv_at hl 4 rfl) ?_
        refine nw_get (C := "LatticeKeys$DsaSet") (TT := T_DS) (N := 17) hx hb hts (wg_ft i_DS) hown hK hO k_st (kn := 10) (ci := 2) (fl := [(1, 6), (1, 5), (1, 4), (1, 4), (1, 49), (1, 48), (1, 20), (1, 524288), (1, 16), (1, 4), (1, 261888), (1, 55), (1, 196), (1, 1952), (1, 4032), (1, 3248), (1, 3309)]) rfl hP rfl 2 (by decide) (hts _ (wg_t kw_307)) (fun _ h9 => h9) (cd := (1, 4)) rfl dDA_writeSmallVectors_83 (fun v40 hv40 => ?_)
        obtain rfl := (show v40 = .int (nI 4) from hv40)
        refine lv_aload_n hx hb dDA_writeSmallVectors_86 rfl (lv_at hl 3 rfl) ?_
        refine nw_get (C := "LatticeKeys$Dsa") (TT := T_DA) (N := 17) hx hb hts (wg_ft i_DA) hown hK hO k_h0 (kn := 39) (ci := 6) (fl := [(3, 16), (3, 22), (3, 37), (3, 40), (3, 97), (3, 105), (3, 114), (3, 123), (3, 131), (3, 140), (3, 141), (3, 142), (3, 143), (3, 144), (3, 145), (3, 146), (3, 147)]) rfl hP rfl 10 (by decide) (hts _ (wg_t kw_175)) (fun _ h9 => h9) (cd := (3, 141)) rfl dDA_writeSmallVectors_87 (fun v41 hv41 => ?_)
        obtain ⟨r33, rfl, kr33⟩ := (show ∃ r : Nat, v41 = .ref r ∧ T r = some 141 from hv41)
        refine mp_v (cx := []) (wr := []) hP hD hS hA [] [] rfl rfl rfl (by decide) (va_runV (As := [.ref r29, .int (nI 4), .ref r33]) (rest := []) F (N_RG_flip_8 l g _ T s25 pl hO hU r32 r29 r33 (98 + i21) (nI 4) 141 kr32 kr29 hn22 kr33 rfl) (cwV 3 hts (wg_app (wg_c kw_698 (wg_c kw_699 (wg_c kw_700 (wg_c kw_4 wg_n)))) kw_701) rfl rfl rfl (by decide +kernel) ⟨by decide, by decide⟩) (pn_W "LatticeKeys$Ring" (en_ok g) (ci := 4) (kn := 22) (fl := [(1, 8380417), (1, 8), (1, 8347681), (3, 23)]) hK hO kr32 rfl hP hD hS hA hE [] rfl rfl rfl) rfl rfl hl.1 rfl (lv_room (Nat.le_of_ble_eq_true rfl)) dDA_writeSmallVectors_90 ⟨by omega, by omega⟩) (fun  u25 H locs hu25 hP hD hS => ?_)
        obtain ⟨s26, pl⟩ := u25
        obtain ⟨⟨eq25, hFc25, -⟩, hO⟩ := hu25
        have hO : okn g T s26 pl := hO
        have hP : va_P g.1 vcl ([] ++ pl) _ := hP
        have hD : va_D _ ([] ++ pl) := hD
        have hFc25 : frm (M_RG_flip_8 141) s25 s26 := hFc25
        replace hR := bnd_step hR eq25
        have hF := frm_tr hF hFc25 (fun k hk => by unfold M_RG_flip_8 at hk; unfold M_DA_writeSmallVectors_1; omega)
        refine W.widen (k := 0) (n := 0) (by omega) (by omega) ?_
        refine lv_aload_n hx hb dDA_writeSmallVectors_93 rfl (lv_at hl 3 rfl) ?_
        refine nw_get (C := "LatticeKeys$Dsa") (TT := T_DA) (N := 17) hx hb hts (wg_ft i_DA) hown hK hO k_h0 (kn := 39) (ci := 6) (fl := [(3, 16), (3, 22), (3, 37), (3, 40), (3, 97), (3, 105), (3, 114), (3, 123), (3, 131), (3, 140), (3, 141), (3, 142), (3, 143), (3, 144), (3, 145), (3, 146), (3, 147)]) rfl hP rfl 10 (by decide) (hts _ (wg_t kw_175)) (fun _ h9 => h9) (cd := (3, 141)) rfl dDA_writeSmallVectors_94 (fun v42 hv42 => ?_)
        obtain ⟨r34, rfl, kr34⟩ := (show ∃ r : Nat, v42 = .ref r ∧ T r = some 141 from hv42)
        refine lv_aload_n hx hb dDA_writeSmallVectors_97 rfl (lv_at hl 4 rfl) ?_
        refine nw_get (C := "LatticeKeys$DsaSet") (TT := T_DS) (N := 17) hx hb hts (wg_ft i_DS) hown hK hO k_st (kn := 10) (ci := 2) (fl := [(1, 6), (1, 5), (1, 4), (1, 4), (1, 49), (1, 48), (1, 20), (1, 524288), (1, 16), (1, 4), (1, 261888), (1, 55), (1, 196), (1, 1952), (1, 4032), (1, 3248), (1, 3309)]) rfl hP rfl 3 (by decide) (hts _ (wg_t kw_310)) (fun _ h9 => h9) (cd := (1, 4)) rfl dDA_writeSmallVectors_98 (fun v43 hv43 => ?_)
        obtain rfl := (show v43 = .int (nI 4) from hv43)
        refine lv_aload_n hx hb dDA_writeSmallVectors_101 rfl (lv_at hl 5 rfl) ?_
        refine lv_sipush (v := nI 128) hx hb dDA_writeSmallVectors_102 (by decide) ?_
        refine lv_iload_n hx hb dDA_writeSmallVectors_105 rfl (lv_at hl 2 rfl) ?_
        refine lv_iload hx hb dDA_writeSmallVectors_106 (lv_at hl 1 rfl) ?_
        refine mi_imul hx hb dDA_writeSmallVectors_108 ?_
        refine mi_iadd hx hb dDA_writeSmallVectors_109 ?_
        refine mp_v (cx := []) (wr := []) hP hD hS hA [] [] rfl rfl rfl (by decide) (va_runS (As := [.ref r34, .int (nI 4), .ref sk, .int (nI (128 + (128 * i21)))]) (rest := []) F (N_BT_pack l g _ T s26 pl hO hU r34 sk 141 4 psk 4032 (128 + (128 * i21)) kr34 rfl k_sk n_sk (by omega) (by omega) (by omega)) (va_cwS 4 hts (wg_app (wg_c kw_702 (wg_c kw_645 (wg_c kw_22 wg_n))) kw_646) rfl rfl rfl (by decide +kernel) ⟨by decide, by decide⟩) (pp_S (en_ok g) hP hD hS hA hE [] rfl rfl) rfl rfl hl.1 rfl (lv_room (Nat.le_of_ble_eq_true rfl)) dDA_writeSmallVectors_110 ⟨by omega, by omega⟩) (fun  u26 H locs hu26 hP hD hS => ?_)
        obtain ⟨s27, pl⟩ := u26
        obtain ⟨⟨eq26, hFc26, -⟩, hO⟩ := hu26
        have hO : okn g T s27 pl := hO
        have hP : va_P g.1 vcl ([] ++ pl) _ := hP
        have hD : va_D _ ([] ++ pl) := hD
        have hFc26 : frm (M_BT_pack psk) s26 s27 := hFc26
        replace hR := bnd_step hR eq26
        have hF := frm_tr hF hFc26 (fun k hk => by unfold M_BT_pack at hk; unfold M_DA_writeSmallVectors_1; omega)
        refine W.widen (k := 0) (n := 0) (by omega) (by omega) ?_
        refine mi_iinc (k := 1) (x := i21) (d := 1) (y := i21 + 1) (lv' := [(4, .int (nI (i21 + 1))), (5, .ref r29), (3, .int (nI 128)), (0, .ref h0), (1, .ref st), (2, .ref sk)]) hx hb dDA_writeSmallVectors_113 hl rfl (by decide) rfl (by decide) rfl (fun ls hl => ?_)
        refine lv_goto (tgt := 11) hx hb dDA_writeSmallVectors_116 (by decide) ?_
        exact ih21 (i21 + 1) s27 pl ls H locs (by omega) hF hR (lv_sub hl [0, 2, 3, 4, 5] rfl) hO hP hD hS
  exact lp21 11 0 s pl ls _ _ (by omega) hF hR (lv_sub hl [0, 1, 2, 3, 4] rfl) hO hP hD hS
def M_DA_writeSmallVectors_2 (psk : Nat) (k : Nat) : Prop := (106 ≤ k ∧ k < 114) ∨ (98 ≤ k ∧ k < 105) ∨ k = 141 ∨ k = 18 ∨ k = psk ∨ (0 : Nat) = 1
noncomputable def F_DA_writeSmallVectors_2_L0 (psk : Nat) : Nat → Nat → Sto → Sto
  | 0, i21, s21 => s21
  | n21 + 1, i21, s21 => if 7 ≤ i21 then bnd (F_SA_sampleSmall_2 (106 + (i21 - 7)) 142 128 32 (nI i21) s21) fun s22 => bnd (F_RG_flip_8 (106 + (i21 - 7)) (nI 2) 141 s22) fun s23 => bnd (F_BT_pack 141 3 psk 4896 (128 + (96 * i21)) s23) fun s24 => F_DA_writeSmallVectors_2_L0 psk n21 (i21 + 1) s24 else bnd (F_SA_sampleSmall_2 (98 + i21) 142 128 32 (nI i21) s21) fun s25 => bnd (F_RG_flip_8 (98 + i21) (nI 2) 141 s25) fun s26 => bnd (F_BT_pack 141 3 psk 4896 (128 + (96 * i21)) s26) fun s27 => F_DA_writeSmallVectors_2_L0 psk n21 (i21 + 1) s27
noncomputable def F_DA_writeSmallVectors_2 (psk : Nat) (s : Sto) : Sto := F_DA_writeSmallVectors_2_L0 psk 15 0 s
set_option maxHeartbeats 8000000 in
set_option maxRecDepth 100000 in
theorem N_DA_writeSmallVectors_2 (l : Launch) (g : Gd) (sz : Nat) (T : TyN) (s : Sto) (pl : va_W) (hO : okn g T s pl) (hU : inj T) (h0 st sk : Nat) (psk : Nat) (k_h0 : T h0 = some 39) (k_st : T st = some 11) (k_sk : T sk = some psk) (n_sk : nsp psk = (1, 4896, []))  : Met l y_DA_writeSmallVectors w_DA_writeSmallVectors ({ frames := 5, cells := 0, slots := 0, locals := 151 } : Room) (va_Pc [.ref h0, .ref st, .ref sk] (pr (en g) g.1 vcl sz ([] ++ pl))) (va_Qv (fun (u : (Sto) × va_W) => (u.1 = F_DA_writeSmallVectors_2 psk s ∧ frm (M_DA_writeSmallVectors_2 psk) s u.1 ∧ True) ∧ okn g T u.1 u.2) (po g.1 vcl (va_A ([] ++ pl) sz) (fun (u : (Sto) × va_W) => [] ++ u.2)) (va_A ([] ++ pl) sz)) 0 0 (va_A ([] ++ pl) sz) := by
  refine mc_entry (cc := c_DA_writeSmallVectors) (maxL := 6) (ret := none) (by decide) rfl (Nat.le_of_ble_eq_true rfl) ?_
  intro p e s0 m args below meth c ls F hr hlk hnm hsz hP hD hE hA hl
  obtain ⟨hx, hb, hml, hown, hts⟩ := id F
  have hK := hE.1
  generalize va_A ([] ++ pl) sz = A at hD hE hA ⊢
  have hS : va_S A s0.heap s0.heap [] := va_S.rf
  have hl : lv_has ls 6 [(0, .ref h0), (1, .ref st), (2, .ref sk)] := hl
  have hR : F_DA_writeSmallVectors_2 psk s = F_DA_writeSmallVectors_2 psk s := rfl
  have hF : frm (M_DA_writeSmallVectors_2 psk) s s := frm_rf
  refine lv_bipush (v := nI 32) hx hb dDA_writeSmallVectors_0 (by decide) ?_
  refine lv_aload_n hx hb dDA_writeSmallVectors_2 rfl (lv_at hl 1 rfl) ?_
  refine nw_get (C := "LatticeKeys$DsaSet") (TT := T_DS) (N := 17) hx hb hts (wg_ft i_DS) hown hK hO k_st (kn := 11) (ci := 2) (fl := [(1, 8), (1, 7), (1, 2), (1, 3), (1, 60), (1, 64), (1, 20), (1, 524288), (1, 16), (1, 4), (1, 261888), (1, 75), (1, 120), (1, 2592), (1, 4896), (1, 4544), (1, 4627)]) rfl hP rfl 3 (by decide) (hts _ (wg_t kw_310)) (fun _ h9 => h9) (cd := (1, 3)) rfl dDA_writeSmallVectors_3 (fun v21 hv21 => ?_)
  obtain rfl := (show v21 = .int (nI 3) from hv21)
  refine mi_imul hx hb dDA_writeSmallVectors_6 ?_
  refine mi_as (show nI (32 * 3) = nI 96 from rfl) ?_
  refine lv_istore_n (lv' := [(3, .int (nI 96)), (0, .ref h0), (1, .ref st), (2, .ref sk)]) hx hb dDA_writeSmallVectors_7 rfl hl (by decide) rfl (fun ls hl => ?_)
  refine lv_iconst (v := nI 0) hx hb dDA_writeSmallVectors_8 (by decide) ?_
  refine lv_istore (lv' := [(4, .int (nI 0)), (3, .int (nI 96)), (0, .ref h0), (1, .ref st), (2, .ref sk)]) hx hb dDA_writeSmallVectors_9 hl (by decide) rfl (fun ls hl => ?_)
  have lp21 : ∀ (n21 : Nat) (i21 : Nat) (s21 : Sto) (pl : va_W) (ls : Array Slot) (H : Heap) (locs : List Loc), n21 + i21 = 15 → frm (M_DA_writeSmallVectors_2 psk) s s21 → F_DA_writeSmallVectors_2 psk s = F_DA_writeSmallVectors_2_L0 psk n21 i21 s21 → lv_has ls 6 [(4, .int (nI i21)), (3, .int (nI 96)), (0, .ref h0), (1, .ref st), (2, .ref sk)] → okn g T s21 pl → va_P g.1 vcl ([] ++ pl) H → va_D A ([] ++ pl) → va_S A s0.heap H locs → W p l e ({ frames := 5, cells := 0, slots := 0, locals := 151 } : Room) s0 m args below meth c H locs 0 0 (MQ below (va_Qv (fun (u : (Sto) × va_W) => (u.1 = F_DA_writeSmallVectors_2 psk s ∧ frm (M_DA_writeSmallVectors_2 psk) s u.1 ∧ True) ∧ okn g T u.1 u.2) (po g.1 vcl A (fun (u : (Sto) × va_W) => [] ++ u.2)) A) args s0 0 0 A) (F0 m 11 ls []) := by
    intro n21
    induction n21 with
    | zero =>
      intro i21 s21 pl ls H locs hm21 hF hR hl hO hP hD hS
      refine lv_iload hx hb dDA_writeSmallVectors_11 (lv_at hl 0 rfl) ?_
      refine lv_aload_n hx hb dDA_writeSmallVectors_13 rfl (lv_at hl 3 rfl) ?_
      refine nw_get (C := "LatticeKeys$DsaSet") (TT := T_DS) (N := 17) hx hb hts (wg_ft i_DS) hown hK hO k_st (kn := 11) (ci := 2) (fl := [(1, 8), (1, 7), (1, 2), (1, 3), (1, 60), (1, 64), (1, 20), (1, 524288), (1, 16), (1, 4), (1, 261888), (1, 75), (1, 120), (1, 2592), (1, 4896), (1, 4544), (1, 4627)]) rfl hP rfl 1 (by decide) (hts _ (wg_t kw_305)) (fun _ h9 => h9) (cd := (1, 7)) rfl dDA_writeSmallVectors_14 (fun v22 hv22 => ?_)
      obtain rfl := (show v22 = .int (nI 7) from hv22)
      refine lv_aload_n hx hb dDA_writeSmallVectors_17 rfl (lv_at hl 3 rfl) ?_
      refine nw_get (C := "LatticeKeys$DsaSet") (TT := T_DS) (N := 17) hx hb hts (wg_ft i_DS) hown hK hO k_st (kn := 11) (ci := 2) (fl := [(1, 8), (1, 7), (1, 2), (1, 3), (1, 60), (1, 64), (1, 20), (1, 524288), (1, 16), (1, 4), (1, 261888), (1, 75), (1, 120), (1, 2592), (1, 4896), (1, 4544), (1, 4627)]) rfl hP rfl 0 (by decide) (hts _ (wg_t kw_302)) (fun _ h9 => h9) (cd := (1, 8)) rfl dDA_writeSmallVectors_18 (fun v23 hv23 => ?_)
      obtain rfl := (show v23 = .int (nI 8) from hv23)
      refine mi_iadd hx hb dDA_writeSmallVectors_21 ?_
      refine mi_as (show nI (7 + 8) = nI 15 from rfl) ?_
      refine mi_ge (tgt := 119) hx hb dDA_writeSmallVectors_22 (by decide) (by omega) (by omega) (fun h21 => ?_) (fun h21 => absurd h21 (by omega))
      exact mp_vret hx hb hr hlk hP hD hS (s21, pl) ⟨⟨hR.symm, hF, trivial⟩, hO⟩ [] rfl rfl rfl (by omega) (by omega) dDA_writeSmallVectors_119
    | succ n21 ih21 =>
      intro i21 s21 pl ls H locs hm21 hF hR hl hO hP hD hS
      refine lv_iload hx hb dDA_writeSmallVectors_11 (lv_at hl 0 rfl) ?_
      refine lv_aload_n hx hb dDA_writeSmallVectors_13 rfl (lv_at hl 3 rfl) ?_
      refine nw_get (C := "LatticeKeys$DsaSet") (TT := T_DS) (N := 17) hx hb hts (wg_ft i_DS) hown hK hO k_st (kn := 11) (ci := 2) (fl := [(1, 8), (1, 7), (1, 2), (1, 3), (1, 60), (1, 64), (1, 20), (1, 524288), (1, 16), (1, 4), (1, 261888), (1, 75), (1, 120), (1, 2592), (1, 4896), (1, 4544), (1, 4627)]) rfl hP rfl 1 (by decide) (hts _ (wg_t kw_305)) (fun _ h9 => h9) (cd := (1, 7)) rfl dDA_writeSmallVectors_14 (fun v24 hv24 => ?_)
      obtain rfl := (show v24 = .int (nI 7) from hv24)
      refine lv_aload_n hx hb dDA_writeSmallVectors_17 rfl (lv_at hl 3 rfl) ?_
      refine nw_get (C := "LatticeKeys$DsaSet") (TT := T_DS) (N := 17) hx hb hts (wg_ft i_DS) hown hK hO k_st (kn := 11) (ci := 2) (fl := [(1, 8), (1, 7), (1, 2), (1, 3), (1, 60), (1, 64), (1, 20), (1, 524288), (1, 16), (1, 4), (1, 261888), (1, 75), (1, 120), (1, 2592), (1, 4896), (1, 4544), (1, 4627)]) rfl hP rfl 0 (by decide) (hts _ (wg_t kw_302)) (fun _ h9 => h9) (cd := (1, 8)) rfl dDA_writeSmallVectors_18 (fun v25 hv25 => ?_)
      obtain rfl := (show v25 = .int (nI 8) from hv25)
      refine mi_iadd hx hb dDA_writeSmallVectors_21 ?_
      refine mi_as (show nI (7 + 8) = nI 15 from rfl) ?_
      refine mi_ge (tgt := 119) hx hb dDA_writeSmallVectors_22 (by decide) (by omega) (by omega) (fun h22 => absurd h22 (by omega)) (fun h22 => ?_)
      refine lv_iload hx hb dDA_writeSmallVectors_25 (lv_at hl 0 rfl) ?_
      refine lv_aload_n hx hb dDA_writeSmallVectors_27 rfl (lv_at hl 3 rfl) ?_
      refine nw_get (C := "LatticeKeys$DsaSet") (TT := T_DS) (N := 17) hx hb hts (wg_ft i_DS) hown hK hO k_st (kn := 11) (ci := 2) (fl := [(1, 8), (1, 7), (1, 2), (1, 3), (1, 60), (1, 64), (1, 20), (1, 524288), (1, 16), (1, 4), (1, 261888), (1, 75), (1, 120), (1, 2592), (1, 4896), (1, 4544), (1, 4627)]) rfl hP rfl 1 (by decide) (hts _ (wg_t kw_305)) (fun _ h9 => h9) (cd := (1, 7)) rfl dDA_writeSmallVectors_28 (fun v26 hv26 => ?_)
      obtain rfl := (show v26 = .int (nI 7) from hv26)
      refine mi_ge (tgt := 44) hx hb dDA_writeSmallVectors_31 (by decide) (by omega) (by omega) (fun h23 => ?_) (fun h23 => ?_)
      · replace hR := hR.trans (if_pos h23)
        refine lv_aload_n hx hb dDA_writeSmallVectors_44 rfl (lv_at hl 2 rfl) ?_
        refine nw_get (C := "LatticeKeys$Dsa") (TT := T_DA) (N := 17) hx hb hts (wg_ft i_DA) hown hK hO k_h0 (kn := 39) (ci := 6) (fl := [(3, 16), (3, 22), (3, 37), (3, 40), (3, 97), (3, 105), (3, 114), (3, 123), (3, 131), (3, 140), (3, 141), (3, 142), (3, 143), (3, 144), (3, 145), (3, 146), (3, 147)]) rfl hP rfl 5 (by decide) (hts _ (wg_t kw_170)) (fun _ h9 => h9) (cd := (3, 105)) rfl dDA_writeSmallVectors_45 (fun v27 hv27 => ?_)
        obtain ⟨r21, rfl, kr21⟩ := (show ∃ r : Nat, v27 = .ref r ∧ T r = some 105 from hv27)
        refine lv_iload hx hb dDA_writeSmallVectors_48 (lv_at hl 0 rfl) ?_
        refine lv_aload_n hx hb dDA_writeSmallVectors_50 rfl (lv_at hl 3 rfl) ?_
        refine nw_get (C := "LatticeKeys$DsaSet") (TT := T_DS) (N := 17) hx hb hts (wg_ft i_DS) hown hK hO k_st (kn := 11) (ci := 2) (fl := [(1, 8), (1, 7), (1, 2), (1, 3), (1, 60), (1, 64), (1, 20), (1, 524288), (1, 16), (1, 4), (1, 261888), (1, 75), (1, 120), (1, 2592), (1, 4896), (1, 4544), (1, 4627)]) rfl hP rfl 1 (by decide) (hts _ (wg_t kw_305)) (fun _ h9 => h9) (cd := (1, 7)) rfl dDA_writeSmallVectors_51 (fun v28 hv28 => ?_)
        obtain rfl := (show v28 = .int (nI 7) from hv28)
        refine mi_isub hx hb dDA_writeSmallVectors_54 (by omega) ?_
        refine nw_aald3 hx hb hK hO kr21 (k := 105) (b := 106) rfl hP (by omega) (by omega) dDA_writeSmallVectors_55 (fun r22 kr22 => ?_)
        have hn21 : nsp (106 + (i21 - 7)) = (0, 256, []) := rows_ok 106 8 (by decide) _ (by omega)
        refine lv_astore (lv' := [(5, .ref r22), (4, .int (nI i21)), (3, .int (nI 96)), (0, .ref h0), (1, .ref st), (2, .ref sk)]) hx hb dDA_writeSmallVectors_56 hl (by decide) rfl (fun ls hl => ?_)
        refine lv_aload_n hx hb dDA_writeSmallVectors_58 rfl (lv_at hl 3 rfl) ?_
        refine nw_get (C := "LatticeKeys$Dsa") (TT := T_DA) (N := 17) hx hb hts (wg_ft i_DA) hown hK hO k_h0 (kn := 39) (ci := 6) (fl := [(3, 16), (3, 22), (3, 37), (3, 40), (3, 97), (3, 105), (3, 114), (3, 123), (3, 131), (3, 140), (3, 141), (3, 142), (3, 143), (3, 144), (3, 145), (3, 146), (3, 147)]) rfl hP rfl 2 (by decide) (hts _ (wg_t kw_167)) (fun _ h9 => h9) (cd := (3, 37)) rfl dDA_writeSmallVectors_59 (fun v29 hv29 => ?_)
        obtain ⟨r23, rfl, kr23⟩ := (show ∃ r : Nat, v29 = .ref r ∧ T r = some 37 from hv29)
        refine lv_aload_n hx hb dDA_writeSmallVectors_62 rfl (lv_at hl 4 rfl) ?_
        refine lv_aload hx hb dDA_writeSmallVectors_63 (lv_at hl 0 rfl) ?_
        refine lv_aload_n hx hb dDA_writeSmallVectors_65 rfl (lv_at hl 3 rfl) ?_
        refine nw_get (C := "LatticeKeys$Dsa") (TT := T_DA) (N := 17) hx hb hts (wg_ft i_DA) hown hK hO k_h0 (kn := 39) (ci := 6) (fl := [(3, 16), (3, 22), (3, 37), (3, 40), (3, 97), (3, 105), (3, 114), (3, 123), (3, 131), (3, 140), (3, 141), (3, 142), (3, 143), (3, 144), (3, 145), (3, 146), (3, 147)]) rfl hP rfl 11 (by decide) (hts _ (wg_t kw_176)) (fun _ h9 => h9) (cd := (3, 142)) rfl dDA_writeSmallVectors_66 (fun v30 hv30 => ?_)
        obtain ⟨r24, rfl, kr24⟩ := (show ∃ r : Nat, v30 = .ref r ∧ T r = some 142 from hv30)
        refine lv_bipush (v := nI 32) hx hb dDA_writeSmallVectors_69 (by decide) ?_
        refine lv_iload hx hb dDA_writeSmallVectors_71 (lv_at hl 1 rfl) ?_
        refine mp_v (cx := []) (wr := []) hP hD hS hA [] [] rfl rfl rfl (by decide) (va_runV (As := [.ref st, .ref r22, .ref r24, .int (nI 32), .int (nI i21)]) (rest := []) F (N_SA_sampleSmall_2 l g _ T s21 pl hO hU r23 st r22 r24 (106 + (i21 - 7)) 142 128 32 (nI i21) kr23 k_st kr22 hn21 kr24 rfl (by omega) (by omega)) (cwV 5 hts (wg_app (wg_c kw_679 (wg_c kw_680 (wg_c kw_681 (wg_c kw_6 wg_n)))) kw_682) rfl rfl rfl (by decide +kernel) ⟨by decide, by decide⟩) (pn_W "LatticeKeys$DsaSampler" (en_ok g) (ci := 7) (kn := 37) (fl := [(3, 18), (3, 38)]) hK hO kr23 rfl hP hD hS hA hE [] rfl rfl rfl) rfl rfl hl.1 rfl (lv_room (Nat.le_of_ble_eq_true rfl)) dDA_writeSmallVectors_73 ⟨by omega, by omega⟩) (fun  u21 H locs hu21 hP hD hS => ?_)
        obtain ⟨s22, pl⟩ := u21
        obtain ⟨⟨eq21, hFc21, -⟩, hO⟩ := hu21
        have hO : okn g T s22 pl := hO
        have hP : va_P g.1 vcl ([] ++ pl) _ := hP
        have hD : va_D _ ([] ++ pl) := hD
        have hFc21 : frm (M_SA_sampleSmall_2 (106 + (i21 - 7))) s21 s22 := hFc21
        replace hR := bnd_step hR eq21
        have hF := frm_tr hF hFc21 (fun k hk => by unfold M_SA_sampleSmall_2 at hk; unfold M_DA_writeSmallVectors_2; omega)
        refine W.widen (k := 0) (n := 0) (by omega) (by omega) ?_
        refine lv_aload_n hx hb dDA_writeSmallVectors_76 rfl (lv_at hl 3 rfl) ?_
        refine nw_get (C := "LatticeKeys$Dsa") (TT := T_DA) (N := 17) hx hb hts (wg_ft i_DA) hown hK hO k_h0 (kn := 39) (ci := 6) (fl := [(3, 16), (3, 22), (3, 37), (3, 40), (3, 97), (3, 105), (3, 114), (3, 123), (3, 131), (3, 140), (3, 141), (3, 142), (3, 143), (3, 144), (3, 145), (3, 146), (3, 147)]) rfl hP rfl 1 (by decide) (hts _ (wg_t kw_166)) (fun _ h9 => h9) (cd := (3, 22)) rfl dDA_writeSmallVectors_77 (fun v31 hv31 => ?_)
        obtain ⟨r25, rfl, kr25⟩ := (show ∃ r : Nat, v31 = .ref r ∧ T r = some 22 from hv31)
        refine lv_aload hx hb dDA_writeSmallVectors_80 (lv_at hl 0 rfl) ?_
        refine lv_aload_n hx hb dDA_writeSmallVectors_82 rfl (lv_at hl 4 rfl) ?_
        refine nw_get (C := "LatticeKeys$DsaSet") (TT := T_DS) (N := 17) hx hb hts (wg_ft i_DS) hown hK hO k_st (kn := 11) (ci := 2) (fl := [(1, 8), (1, 7), (1, 2), (1, 3), (1, 60), (1, 64), (1, 20), (1, 524288), (1, 16), (1, 4), (1, 261888), (1, 75), (1, 120), (1, 2592), (1, 4896), (1, 4544), (1, 4627)]) rfl hP rfl 2 (by decide) (hts _ (wg_t kw_307)) (fun _ h9 => h9) (cd := (1, 2)) rfl dDA_writeSmallVectors_83 (fun v32 hv32 => ?_)
        obtain rfl := (show v32 = .int (nI 2) from hv32)
        refine lv_aload_n hx hb dDA_writeSmallVectors_86 rfl (lv_at hl 3 rfl) ?_
        refine nw_get (C := "LatticeKeys$Dsa") (TT := T_DA) (N := 17) hx hb hts (wg_ft i_DA) hown hK hO k_h0 (kn := 39) (ci := 6) (fl := [(3, 16), (3, 22), (3, 37), (3, 40), (3, 97), (3, 105), (3, 114), (3, 123), (3, 131), (3, 140), (3, 141), (3, 142), (3, 143), (3, 144), (3, 145), (3, 146), (3, 147)]) rfl hP rfl 10 (by decide) (hts _ (wg_t kw_175)) (fun _ h9 => h9) (cd := (3, 141)) rfl dDA_writeSmallVectors_87 (fun v33 hv33 => ?_)
        obtain ⟨r26, rfl, kr26⟩ := (show ∃ r : Nat, v33 = .ref r ∧ T r = some 141 from hv33)
        refine mp_v (cx := []) (wr := []) hP hD hS hA [] [] rfl rfl rfl (by decide) (va_runV (As := [.ref r22, .int (nI 2), .ref r26]) (rest := []) F (N_RG_flip_8 l g _ T s22 pl hO hU r25 r22 r26 (106 + (i21 - 7)) (nI 2) 141 kr25 kr22 hn21 kr26 rfl) (cwV 3 hts (wg_app (wg_c kw_698 (wg_c kw_699 (wg_c kw_700 (wg_c kw_4 wg_n)))) kw_701) rfl rfl rfl (by decide +kernel) ⟨by decide, by decide⟩) (pn_W "LatticeKeys$Ring" (en_ok g) (ci := 4) (kn := 22) (fl := [(1, 8380417), (1, 8), (1, 8347681), (3, 23)]) hK hO kr25 rfl hP hD hS hA hE [] rfl rfl rfl) rfl rfl hl.1 rfl (lv_room (Nat.le_of_ble_eq_true rfl)) dDA_writeSmallVectors_90 ⟨by omega, by omega⟩) (fun  u22 H locs hu22 hP hD hS => ?_)
        obtain ⟨s23, pl⟩ := u22
        obtain ⟨⟨eq22, hFc22, -⟩, hO⟩ := hu22
        have hO : okn g T s23 pl := hO
        have hP : va_P g.1 vcl ([] ++ pl) _ := hP
        have hD : va_D _ ([] ++ pl) := hD
        have hFc22 : frm (M_RG_flip_8 141) s22 s23 := hFc22
        replace hR := bnd_step hR eq22
        have hF := frm_tr hF hFc22 (fun k hk => by unfold M_RG_flip_8 at hk; unfold M_DA_writeSmallVectors_2; omega)
        refine W.widen (k := 0) (n := 0) (by omega) (by omega) ?_
        refine lv_aload_n hx hb dDA_writeSmallVectors_93 rfl (lv_at hl 3 rfl) ?_
        refine nw_get (C := "LatticeKeys$Dsa") (TT := T_DA) (N := 17) hx hb hts (wg_ft i_DA) hown hK hO k_h0 (kn := 39) (ci := 6) (fl := [(3, 16), (3, 22), (3, 37), (3, 40), (3, 97), (3, 105), (3, 114), (3, 123), (3, 131), (3, 140), (3, 141), (3, 142), (3, 143), (3, 144), (3, 145), (3, 146), (3, 147)]) rfl hP rfl 10 (by decide) (hts _ (wg_t kw_175)) (fun _ h9 => h9) (cd := (3, 141)) rfl dDA_writeSmallVectors_94 (fun v34 hv34 => ?_)
        obtain ⟨r27, rfl, kr27⟩ := (show ∃ r : Nat, v34 = .ref r ∧ T r = some 141 from hv34)
        refine lv_aload_n hx hb dDA_writeSmallVectors_97 rfl (lv_at hl 4 rfl) ?_
        refine nw_get (C := "LatticeKeys$DsaSet") (TT := T_DS) (N := 17) hx hb hts (wg_ft i_DS) hown hK hO k_st (kn := 11) (ci := 2) (fl := [(1, 8), (1, 7), (1, 2), (1, 3), (1, 60), (1, 64), (1, 20), (1, 524288), (1, 16), (1, 4), (1, 261888), (1, 75), (1, 120), (1, 2592), (1, 4896), (1, 4544), (1, 4627)]) rfl hP rfl 3 (by decide) (hts _ (wg_t kw_310)) (fun _ h9 => h9) (cd := (1, 3)) rfl dDA_writeSmallVectors_98 (fun v35 hv35 => ?_)
        obtain rfl := (show v35 = .int (nI 3) from hv35)
        refine lv_aload_n hx hb dDA_writeSmallVectors_101 rfl (lv_at hl 5 rfl) ?_
        refine lv_sipush (v := nI 128) hx hb dDA_writeSmallVectors_102 (by decide) ?_
        refine lv_iload_n hx hb dDA_writeSmallVectors_105 rfl (lv_at hl 2 rfl) ?_
        refine lv_iload hx hb dDA_writeSmallVectors_106 (lv_at hl 1 rfl) ?_
        refine mi_imul hx hb dDA_writeSmallVectors_108 ?_
        refine mi_iadd hx hb dDA_writeSmallVectors_109 ?_
        refine mp_v (cx := []) (wr := []) hP hD hS hA [] [] rfl rfl rfl (by decide) (va_runS (As := [.ref r27, .int (nI 3), .ref sk, .int (nI (128 + (96 * i21)))]) (rest := []) F (N_BT_pack l g _ T s23 pl hO hU r27 sk 141 3 psk 4896 (128 + (96 * i21)) kr27 rfl k_sk n_sk (by omega) (by omega) (by omega)) (va_cwS 4 hts (wg_app (wg_c kw_702 (wg_c kw_645 (wg_c kw_22 wg_n))) kw_646) rfl rfl rfl (by decide +kernel) ⟨by decide, by decide⟩) (pp_S (en_ok g) hP hD hS hA hE [] rfl rfl) rfl rfl hl.1 rfl (lv_room (Nat.le_of_ble_eq_true rfl)) dDA_writeSmallVectors_110 ⟨by omega, by omega⟩) (fun  u23 H locs hu23 hP hD hS => ?_)
        obtain ⟨s24, pl⟩ := u23
        obtain ⟨⟨eq23, hFc23, -⟩, hO⟩ := hu23
        have hO : okn g T s24 pl := hO
        have hP : va_P g.1 vcl ([] ++ pl) _ := hP
        have hD : va_D _ ([] ++ pl) := hD
        have hFc23 : frm (M_BT_pack psk) s23 s24 := hFc23
        replace hR := bnd_step hR eq23
        have hF := frm_tr hF hFc23 (fun k hk => by unfold M_BT_pack at hk; unfold M_DA_writeSmallVectors_2; omega)
        refine W.widen (k := 0) (n := 0) (by omega) (by omega) ?_
        refine mi_iinc (k := 1) (x := i21) (d := 1) (y := i21 + 1) (lv' := [(4, .int (nI (i21 + 1))), (5, .ref r22), (3, .int (nI 96)), (0, .ref h0), (1, .ref st), (2, .ref sk)]) hx hb dDA_writeSmallVectors_113 hl rfl (by decide) rfl (by decide) rfl (fun ls hl => ?_)
        refine lv_goto (tgt := 11) hx hb dDA_writeSmallVectors_116 (by decide) ?_
        exact ih21 (i21 + 1) s24 pl ls H locs (by omega) hF hR (lv_sub hl [0, 2, 3, 4, 5] rfl) hO hP hD hS
      · replace hR := hR.trans (if_neg (Nat.not_le.mpr h23))
        refine lv_aload_n hx hb dDA_writeSmallVectors_34 rfl (lv_at hl 2 rfl) ?_
        refine nw_get (C := "LatticeKeys$Dsa") (TT := T_DA) (N := 17) hx hb hts (wg_ft i_DA) hown hK hO k_h0 (kn := 39) (ci := 6) (fl := [(3, 16), (3, 22), (3, 37), (3, 40), (3, 97), (3, 105), (3, 114), (3, 123), (3, 131), (3, 140), (3, 141), (3, 142), (3, 143), (3, 144), (3, 145), (3, 146), (3, 147)]) rfl hP rfl 4 (by decide) (hts _ (wg_t kw_169)) (fun _ h9 => h9) (cd := (3, 97)) rfl dDA_writeSmallVectors_35 (fun v36 hv36 => ?_)
        obtain ⟨r28, rfl, kr28⟩ := (show ∃ r : Nat, v36 = .ref r ∧ T r = some 97 from hv36)
        refine lv_iload hx hb dDA_writeSmallVectors_38 (lv_at hl 0 rfl) ?_
        refine nw_aald3 hx hb hK hO kr28 (k := 97) (b := 98) rfl hP (by omega) (by omega) dDA_writeSmallVectors_40 (fun r29 kr29 => ?_)
        have hn22 : nsp (98 + i21) = (0, 256, []) := rows_ok 98 7 (by decide) _ (by omega)
        refine lv_goto (tgt := 56) hx hb dDA_writeSmallVectors_41 (by decide) ?_
        refine lv_astore (lv' := [(5, .ref r29), (4, .int (nI i21)), (3, .int (nI 96)), (0, .ref h0), (1, .ref st), (2, .ref sk)]) hx hb dDA_writeSmallVectors_56 hl (by decide) rfl (fun ls hl => ?_)
        refine lv_aload_n hx hb dDA_writeSmallVectors_58 rfl (lv_at hl 3 rfl) ?_
        refine nw_get (C := "LatticeKeys$Dsa") (TT := T_DA) (N := 17) hx hb hts (wg_ft i_DA) hown hK hO k_h0 (kn := 39) (ci := 6) (fl := [(3, 16), (3, 22), (3, 37), (3, 40), (3, 97), (3, 105), (3, 114), (3, 123), (3, 131), (3, 140), (3, 141), (3, 142), (3, 143), (3, 144), (3, 145), (3, 146), (3, 147)]) rfl hP rfl 2 (by decide) (hts _ (wg_t kw_167)) (fun _ h9 => h9) (cd := (3, 37)) rfl dDA_writeSmallVectors_59 (fun v37 hv37 => ?_)
        obtain ⟨r30, rfl, kr30⟩ := (show ∃ r : Nat, v37 = .ref r ∧ T r = some 37 from hv37)
        refine lv_aload_n hx hb dDA_writeSmallVectors_62 rfl (lv_at hl 4 rfl) ?_
        refine lv_aload hx hb dDA_writeSmallVectors_63 (lv_at hl 0 rfl) ?_
        refine lv_aload_n hx hb dDA_writeSmallVectors_65 rfl (lv_at hl 3 rfl) ?_
        refine nw_get (C := "LatticeKeys$Dsa") (TT := T_DA) (N := 17) hx hb hts (wg_ft i_DA) hown hK hO k_h0 (kn := 39) (ci := 6) (fl := [(3, 16), (3, 22), (3, 37), (3, 40), (3, 97), (3, 105), (3, 114), (3, 123), (3, 131), (3, 140), (3, 141), (3, 142), (3, 143), (3, 144), (3, 145), (3, 146), (3, 147)]) rfl hP rfl 11 (by decide) (hts _ (wg_t kw_176)) (fun _ h9 => h9) (cd := (3, 142)) rfl dDA_writeSmallVectors_66 (fun v38 hv38 => ?_)
        obtain ⟨r31, rfl, kr31⟩ := (show ∃ r : Nat, v38 = .ref r ∧ T r = some 142 from hv38)
        refine lv_bipush (v := nI 32) hx hb dDA_writeSmallVectors_69 (by decide) ?_
        refine lv_iload hx hb dDA_writeSmallVectors_71 (lv_at hl 1 rfl) ?_
        refine mp_v (cx := []) (wr := []) hP hD hS hA [] [] rfl rfl rfl (by decide) (va_runV (As := [.ref st, .ref r29, .ref r31, .int (nI 32), .int (nI i21)]) (rest := []) F (N_SA_sampleSmall_2 l g _ T s21 pl hO hU r30 st r29 r31 (98 + i21) 142 128 32 (nI i21) kr30 k_st kr29 hn22 kr31 rfl (by omega) (by omega)) (cwV 5 hts (wg_app (wg_c kw_679 (wg_c kw_680 (wg_c kw_681 (wg_c kw_6 wg_n)))) kw_682) rfl rfl rfl (by decide +kernel) ⟨by decide, by decide⟩) (pn_W "LatticeKeys$DsaSampler" (en_ok g) (ci := 7) (kn := 37) (fl := [(3, 18), (3, 38)]) hK hO kr30 rfl hP hD hS hA hE [] rfl rfl rfl) rfl rfl hl.1 rfl (lv_room (Nat.le_of_ble_eq_true rfl)) dDA_writeSmallVectors_73 ⟨by omega, by omega⟩) (fun  u24 H locs hu24 hP hD hS => ?_)
        obtain ⟨s25, pl⟩ := u24
        obtain ⟨⟨eq24, hFc24, -⟩, hO⟩ := hu24
        have hO : okn g T s25 pl := hO
        have hP : va_P g.1 vcl ([] ++ pl) _ := hP
        have hD : va_D _ ([] ++ pl) := hD
        have hFc24 : frm (M_SA_sampleSmall_2 (98 + i21)) s21 s25 := hFc24
        replace hR := bnd_step hR eq24
        have hF := frm_tr hF hFc24 (fun k hk => by unfold M_SA_sampleSmall_2 at hk; unfold M_DA_writeSmallVectors_2; omega)
        refine W.widen (k := 0) (n := 0) (by omega) (by omega) ?_
        refine lv_aload_n hx hb dDA_writeSmallVectors_76 rfl (lv_at hl 3 rfl) ?_
        refine nw_get (C := "LatticeKeys$Dsa") (TT := T_DA) (N := 17) hx hb hts (wg_ft i_DA) hown hK hO k_h0 (kn := 39) (ci := 6) (fl := [(3, 16), (3, 22), (3, 37), (3, 40), (3, 97), (3, 105), (3, 114), (3, 123), (3, 131), (3, 140), (3, 141), (3, 142), (3, 143), (3, 144), (3, 145), (3, 146), (3, 147)]) rfl hP rfl 1 (by decide) (hts _ (wg_t kw_166)) (fun _ h9 => h9) (cd := (3, 22)) rfl dDA_writeSmallVectors_77 (fun v39 hv39 => ?_)
        obtain ⟨r32, rfl, kr32⟩ := (show ∃ r : Nat, v39 = .ref r ∧ T r = some 22 from hv39)
        refine lv_aload hx hb dDA_writeSmallVectors_80 (lv_at hl 0 rfl) ?_
        refine lv_aload_n hx hb dDA_writeSmallVectors_82 rfl (lv_at hl 4 rfl) ?_
        refine nw_get (C := "LatticeKeys$DsaSet") (TT := T_DS) (N := 17) hx hb hts (wg_ft i_DS) hown hK hO k_st (kn := 11) (ci := 2) (fl := [(1, 8), (1, 7), (1, 2), (1, 3), (1, 60), (1, 64), (1, 20), (1, 524288), (1, 16), (1, 4), (1, 261888), (1, 75), (1, 120), (1, 2592), (1, 4896), (1, 4544), (1, 4627)]) rfl hP rfl 2 (by decide) (hts _ (wg_t kw_307)) (fun _ h9 => h9) (cd := (1, 2)) rfl dDA_writeSmallVectors_83 (fun v40 hv40 => ?_)
        obtain rfl := (show v40 = .int (nI 2) from hv40)
        refine lv_aload_n hx hb dDA_writeSmallVectors_86 rfl (lv_at hl 3 rfl) ?_
        refine nw_get (C := "LatticeKeys$Dsa") (TT := T_DA) (N := 17) hx hb hts (wg_ft i_DA) hown hK hO k_h0 (kn := 39) (ci := 6) (fl := [(3, 16), (3, 22), (3, 37), (3, 40), (3, 97), (3, 105), (3, 114), (3, 123), (3, 131), (3, 140), (3, 141), (3, 142), (3, 143), (3, 144), (3, 145), (3, 146), (3, 147)]) rfl hP rfl 10 (by decide) (hts _ (wg_t kw_175)) (fun _ h9 => h9) (cd := (3, 141)) rfl dDA_writeSmallVectors_87 (fun v41 hv41 => ?_)
        obtain ⟨r33, rfl, kr33⟩ := (show ∃ r : Nat, v41 = .ref r ∧ T r = some 141 from hv41)
        refine mp_v (cx := []) (wr := []) hP hD hS hA [] [] rfl rfl rfl (by decide) (va_runV (As := [.ref r29, .int (nI 2), .ref r33]) (rest := []) F (N_RG_flip_8 l g _ T s25 pl hO hU r32 r29 r33 (98 + i21) (nI 2) 141 kr32 kr29 hn22 kr33 rfl) (cwV 3 hts (wg_app (wg_c kw_698 (wg_c kw_699 (wg_c kw_700 (wg_c kw_4 wg_n)))) kw_701) rfl rfl rfl (by decide +kernel) ⟨by decide, by decide⟩) (pn_W "LatticeKeys$Ring" (en_ok g) (ci := 4) (kn := 22) (fl := [(1, 8380417), (1, 8), (1, 8347681), (3, 23)]) hK hO kr32 rfl hP hD hS hA hE [] rfl rfl rfl) rfl rfl hl.1 rfl (lv_room (Nat.le_of_ble_eq_true rfl)) dDA_writeSmallVectors_90 ⟨by omega, by omega⟩) (fun  u25 H locs hu25 hP hD hS => ?_)
        obtain ⟨s26, pl⟩ := u25
        obtain ⟨⟨eq25, hFc25, -⟩, hO⟩ := hu25
        have hO : okn g T s26 pl := hO
        have hP : va_P g.1 vcl ([] ++ pl) _ := hP
        have hD : va_D _ ([] ++ pl) := hD
        have hFc25 : frm (M_RG_flip_8 141) s25 s26 := hFc25
        replace hR := bnd_step hR eq25
        have hF := frm_tr hF hFc25 (fun k hk => by unfold M_RG_flip_8 at hk; unfold M_DA_writeSmallVectors_2; omega)
        refine W.widen (k := 0) (n := 0) (by omega) (by omega) ?_
        refine lv_aload_n hx hb dDA_writeSmallVectors_93 rfl (lv_at hl 3 rfl) ?_
        refine nw_get (C := "LatticeKeys$Dsa") (TT := T_DA) (N := 17) hx hb hts (wg_ft i_DA) hown hK hO k_h0 (kn := 39) (ci := 6) (fl := [(3, 16), (3, 22), (3, 37), (3, 40), (3, 97), (3, 105), (3, 114), (3, 123), (3, 131), (3, 140), (3, 141), (3, 142), (3, 143), (3, 144), (3, 145), (3, 146), (3, 147)]) rfl hP rfl 10 (by decide) (hts _ (wg_t kw_175)) (fun _ h9 => h9) (cd := (3, 141)) rfl dDA_writeSmallVectors_94 (fun v42 hv42 => ?_)
        obtain ⟨r34, rfl, kr34⟩ := (show ∃ r : Nat, v42 = .ref r ∧ T r = some 141 from hv42)
        refine lv_aload_n hx hb dDA_writeSmallVectors_97 rfl (lv_at hl 4 rfl) ?_
        refine nw_get (C := "LatticeKeys$DsaSet") (TT := T_DS) (N := 17) hx hb hts (wg_ft i_DS) hown hK hO k_st (kn := 11) (ci := 2) (fl := [(1, 8), (1, 7), (1, 2), (1, 3), (1, 60), (1, 64), (1, 20), (1, 524288), (1, 16), (1, 4), (1, 261888), (1, 75), (1, 120), (1, 2592), (1, 4896), (1, 4544), (1, 4627)]) rfl hP rfl 3 (by decide) (hts _ (wg_t kw_310)) (fun _ h9 => h9) (cd := (1, 3)) rfl dDA_writeSmallVectors_98 (fun v43 hv43 => ?_)
        obtain rfl := (show v43 = .int (nI 3) from hv43)
        refine lv_aload_n hx hb dDA_writeSmallVectors_101 rfl (lv_at hl 5 rfl) ?_
        refine lv_sipush (v := nI 128) hx hb dDA_writeSmallVectors_102 (by decide) ?_
        refine lv_iload_n hx hb dDA_writeSmallVectors_105 rfl (lv_at hl 2 rfl) ?_
        refine lv_iload hx hb dDA_writeSmallVectors_106 (lv_at hl 1 rfl) ?_
        refine mi_imul hx hb dDA_writeSmallVectors_108 ?_
        refine mi_iadd hx hb dDA_writeSmallVectors_109 ?_
        refine mp_v (cx := []) (wr := []) hP hD hS hA [] [] rfl rfl rfl (by decide) (va_runS (As := [.ref r34, .int (nI 3), .ref sk, .int (nI (128 + (96 * i21)))]) (rest := []) F (N_BT_pack l g _ T s26 pl hO hU r34 sk 141 3 psk 4896 (128 + (96 * i21)) kr34 rfl k_sk n_sk (by omega) (by omega) (by omega)) (va_cwS 4 hts (wg_app (wg_c kw_702 (wg_c kw_645 (wg_c kw_22 wg_n))) kw_646) rfl rfl rfl (by decide +kernel) ⟨by decide, by decide⟩) (pp_S (en_ok g) hP hD hS hA hE [] rfl rfl) rfl rfl hl.1 rfl (lv_room (Nat.le_of_ble_eq_true rfl)) dDA_writeSmallVectors_110 ⟨by omega, by omega⟩) (fun  u26 H locs hu26 hP hD hS => ?_)
        obtain ⟨s27, pl⟩ := u26
        obtain ⟨⟨eq26, hFc26, -⟩, hO⟩ := hu26
        have hO : okn g T s27 pl := hO
        have hP : va_P g.1 vcl ([] ++ pl) _ := hP
        have hD : va_D _ ([] ++ pl) := hD
        have hFc26 : frm (M_BT_pack psk) s26 s27 := hFc26
        replace hR := bnd_step hR eq26
        have hF := frm_tr hF hFc26 (fun k hk => by unfold M_BT_pack at hk; unfold M_DA_writeSmallVectors_2; omega)
        refine W.widen (k := 0) (n := 0) (by omega) (by omega) ?_
        refine mi_iinc (k := 1) (x := i21) (d := 1) (y := i21 + 1) (lv' := [(4, .int (nI (i21 + 1))), (5, .ref r29), (3, .int (nI 96)), (0, .ref h0), (1, .ref st), (2, .ref sk)]) hx hb dDA_writeSmallVectors_113 hl rfl (by decide) rfl (by decide) rfl (fun ls hl => ?_)
        refine lv_goto (tgt := 11) hx hb dDA_writeSmallVectors_116 (by decide) ?_
        exact ih21 (i21 + 1) s27 pl ls H locs (by omega) hF hR (lv_sub hl [0, 2, 3, 4, 5] rfl) hO hP hD hS
  exact lp21 15 0 s pl ls _ _ (by omega) hF hR (lv_sub hl [0, 1, 2, 3, 4] rfl) hO hP hD hS
def M_DA_makePair_0 (pp : Nat) (psk : Nat) (k : Nat) : Prop := (106 ≤ k ∧ k < 114) ∨ (132 ≤ k ∧ k < 140) ∨ (41 ≤ k ∧ k < 97) ∨ (98 ≤ k ∧ k < 105) ∨ k = 141 ∨ k = 142 ∨ k = 143 ∨ k = 16 ∨ k = 18 ∨ k = pp ∨ k = psk ∨ (0 : Nat) = 1
noncomputable def F_DA_makePair_0_L1 (pp : Nat) (psk : Nat) : Nat → Nat → Sto → Sto
  | 0, i22, s33 => bnd (F_DA_digestOf pp 1312 s33) fun s34 => bnd (sC s34 143 psk 0 64 64) fun s35 => s35
  | n22 + 1, i22, s33 => bnd (F_DA_multiplyRow_secret_0 i22 s33) fun s36 => bnd (F_RG_restore_8 (132 + i22) s36) fun s37 => bnd (F_RG_add_8 (132 + i22) (106 + i22) s37) fun s38 => bnd (F_DA_splitRow (132 + i22) s38) fun s39 => bnd (F_BT_pack (132 + i22) 10 pp 1312 (32 + (320 * i22)) s39) fun s40 => bnd (F_BT_pack 141 13 psk 2560 (896 + (416 * i22)) s40) fun s41 => F_DA_makePair_0_L1 pp psk n22 (i22 + 1) s41
noncomputable def F_DA_makePair_0_L0 (pp : Nat) (psk : Nat) : Nat → Nat → Sto → Sto
  | 0, i21, s32 => F_DA_makePair_0_L1 pp psk 4 0 s32
  | n21 + 1, i21, s32 => bnd (F_RG_transform_8 (98 + i21) s32) fun s42 => F_DA_makePair_0_L0 pp psk n21 (i21 + 1) s42
noncomputable def F_DA_makePair_0 (pch : Nat) (n : Nat) (pp : Nat) (psk : Nat) (s : Sto) : Sto := bnd (F_SP_start_3 16 17 s) fun s21 => bnd (F_SP_absorb 16 17 pch n 0 32 s21) fun s22 => bnd (F_SP_absorbByte 16 17 (nI 4) s22) fun s23 => bnd (F_SP_absorbByte 16 17 (nI 4) s23) fun s24 => bnd (F_SP_finish 16 17 s24) fun s25 => bnd (F_SP_squeeze 16 17 142 128 0 128 s25) fun s26 => bnd (sC s26 142 pp 0 0 32) fun s27 => bnd (sC s27 142 psk 0 0 32) fun s28 => bnd (sC s28 142 psk 96 32 32) fun s29 => bnd (F_DA_writeSmallVectors_0 psk s29) fun s30 => bnd (F_SA_expandMatrix_0 pp 1312 s30) fun s31 => F_DA_makePair_0_L0 pp psk 4 0 s31
set_option maxHeartbeats 8000000 in
set_option maxRecDepth 100000 in
theorem N_DA_makePair_0 (l : Launch) (g : Gd) (sz : Nat) (T : TyN) (s : Sto) (pl : va_W) (hO : okn g T s pl) (hU : inj T) (h0 st ch pk sk : Nat) (pch : Nat) (n : Nat) (pp : Nat) (psk : Nat) (k_h0 : T h0 = some 39) (k_st : T st = some 9) (k_ch : T ch = some pch) (n_ch : nsp pch = (1, n, [])) (k_pk : T pk = some pp) (n_pk : nsp pp = (1, 1312, [])) (k_sk : T sk = some psk) (n_sk : nsp psk = (1, 2560, [])) (h1 : 32 ≤ n) (h2 : n < 65536)  : Met l y_DA_makePair w_DA_makePair ({ frames := 6, cells := 0, slots := 0, locals := 176 } : Room) (va_Pc [.ref h0, .ref st, .ref ch, .ref pk, .ref sk] (pr (en g) g.1 vcl sz ([] ++ pl))) (va_Qv (fun (u : (Sto) × va_W) => (u.1 = F_DA_makePair_0 pch n pp psk s ∧ frm (M_DA_makePair_0 pp psk) s u.1 ∧ True) ∧ okn g T u.1 u.2) (po g.1 vcl (va_A ([] ++ pl) sz) (fun (u : (Sto) × va_W) => [] ++ u.2)) (va_A ([] ++ pl) sz)) 0 0 (va_A ([] ++ pl) sz) := by
  refine mc_entry (cc := c_DA_makePair) (maxL := 7) (ret := none) (by decide) rfl (Nat.le_of_ble_eq_true rfl) ?_
  intro p e s0 m args below meth c ls F hr hlk hnm hsz hP hD hE hA hl
  obtain ⟨hx, hb, hml, hown, hts⟩ := id F
  have hK := hE.1
  generalize va_A ([] ++ pl) sz = A at hD hE hA ⊢
  have hS : va_S A s0.heap s0.heap [] := va_S.rf
  have hl : lv_has ls 7 [(0, .ref h0), (1, .ref st), (2, .ref ch), (3, .ref pk), (4, .ref sk)] := hl
  have hR : F_DA_makePair_0 pch n pp psk s = F_DA_makePair_0 pch n pp psk s := rfl
  have hF : frm (M_DA_makePair_0 pp psk) s s := frm_rf
  refine lv_aload_n hx hb dDA_makePair_0 rfl (lv_at hl 0 rfl) ?_
  refine nw_get (C := "LatticeKeys$Dsa") (TT := T_DA) (N := 17) hx hb hts (wg_ft i_DA) hown hK hO k_h0 (kn := 39) (ci := 6) (fl := [(3, 16), (3, 22), (3, 37), (3, 40), (3, 97), (3, 105), (3, 114), (3, 123), (3, 131), (3, 140), (3, 141), (3, 142), (3, 143), (3, 144), (3, 145), (3, 146), (3, 147)]) rfl hP rfl 0 (by decide) (hts _ (wg_t kw_165)) (fun _ h9 => h9) (cd := (3, 16)) rfl dDA_makePair_1 (fun v21 hv21 => ?_)
  obtain ⟨r21, rfl, kr21⟩ := (show ∃ r : Nat, v21 = .ref r ∧ T r = some 16 from hv21)
  refine lv_iconst (v := nI 3) hx hb dDA_makePair_4 (by decide) ?_
  refine mp_v (cx := []) (wr := []) hP hD hS hA [] [] rfl rfl rfl (by decide) (va_runV (As := [.int (nI 3)]) (rest := []) F (N_SP_start_3 l g _ T s pl hO hU r21 16 17 kr21 rfl rfl) (cwV 1 hts (wg_app (wg_c kw_669 (wg_c kw_579 (wg_c kw_580 (wg_c kw_2 wg_n)))) kw_581) rfl rfl rfl (by decide +kernel) ⟨by decide, by decide⟩) (pn_W "LatticeKeys$Sponge" (en_ok g) (ci := 3) (kn := 16) (fl := [(3, 17), (0, 0), (0, 0), (0, 0)]) hK hO kr21 rfl hP hD hS hA hE [] rfl rfl rfl) rfl rfl hl.1 rfl (lv_room (Nat.le_of_ble_eq_true rfl)) dDA_makePair_5 ⟨by omega, by omega⟩) (fun  u21 H locs hu21 hP hD hS => ?_)
  obtain ⟨s21, pl⟩ := u21
  obtain ⟨⟨eq21, hFc21, ⟨x21, hx_21, hb_21⟩, ⟨x22, hx_22, hb_22⟩, -⟩, hO⟩ := hu21
  have hO : okn g T s21 pl := hO
  have hP : va_P g.1 vcl ([] ++ pl) _ := hP
  have hD : va_D _ ([] ++ pl) := hD
  have hFc21 : frm (M_SP_start_3 16) s s21 := hFc21
  have hb_21 : x21 = 0 := hb_21
  have hb_22 : x22 = 136 := hb_22
  replace hR := bnd_step hR eq21
  have hF := frm_tr hF hFc21 (fun k hk => by unfold M_SP_start_3 at hk; unfold M_DA_makePair_0; omega)
  refine W.widen (k := 0) (n := 0) (by omega) (by omega) ?_
  refine lv_aload_n hx hb dDA_makePair_8 rfl (lv_at hl 0 rfl) ?_
  refine nw_get (C := "LatticeKeys$Dsa") (TT := T_DA) (N := 17) hx hb hts (wg_ft i_DA) hown hK hO k_h0 (kn := 39) (ci := 6) (fl := [(3, 16), (3, 22), (3, 37), (3, 40), (3, 97), (3, 105), (3, 114), (3, 123), (3, 131), (3, 140), (3, 141), (3, 142), (3, 143), (3, 144), (3, 145), (3, 146), (3, 147)]) rfl hP rfl 0 (by decide) (hts _ (wg_t kw_165)) (fun _ h9 => h9) (cd := (3, 16)) rfl dDA_makePair_9 (fun v22 hv22 => ?_)
  obtain ⟨r22, rfl, kr22⟩ := (show ∃ r : Nat, v22 = .ref r ∧ T r = some 16 from hv22)
  refine lv_aload_n hx hb dDA_makePair_12 rfl (lv_at hl 2 rfl) ?_
  refine lv_iconst (v := nI 0) hx hb dDA_makePair_13 (by decide) ?_
  refine lv_bipush (v := nI 32) hx hb dDA_makePair_14 (by decide) ?_
  refine mp_v (cx := []) (wr := []) hP hD hS hA [] [] rfl rfl rfl (by decide) (va_runV (As := [.ref ch, .int (nI 0), .int (nI 32)]) (rest := []) F (N_SP_absorb l g _ T s21 pl hO hU r22 ch 16 17 pch n 0 32 x21 x22 kr22 rfl rfl k_ch n_ch hx_21 hx_22 (by omega) (by omega) (by omega) (by omega)) (cwV 3 hts (wg_app (wg_c kw_670 (wg_c kw_586 (wg_c kw_587 (wg_c kw_2 wg_n)))) kw_588) rfl rfl rfl (by decide +kernel) ⟨by decide, by decide⟩) (pn_W "LatticeKeys$Sponge" (en_ok g) (ci := 3) (kn := 16) (fl := [(3, 17), (0, 0), (0, 0), (0, 0)]) hK hO kr22 rfl hP hD hS hA hE [] rfl rfl rfl) rfl rfl hl.1 rfl (lv_room (Nat.le_of_ble_eq_true rfl)) dDA_makePair_16 ⟨by omega, by omega⟩) (fun  u22 H locs hu22 hP hD hS => ?_)
  obtain ⟨s22, pl⟩ := u22
  obtain ⟨⟨eq22, hFc22, ⟨x24, hx_24, hb_24⟩, ⟨x25, hx_25, hb_25⟩, -⟩, hO⟩ := hu22
  have hO : okn g T s22 pl := hO
  have hP : va_P g.1 vcl ([] ++ pl) _ := hP
  have hD : va_D _ ([] ++ pl) := hD
  have hFc22 : frm (M_SP_absorb 16) s21 s22 := hFc22
  have hb_24 : x24 < x22 := hb_24
  have hb_25 : x25 = x22 := hb_25
  replace hR := bnd_step hR eq22
  have hF := frm_tr hF hFc22 (fun k hk => by unfold M_SP_absorb at hk; unfold M_DA_makePair_0; omega)
  refine W.widen (k := 0) (n := 0) (by omega) (by omega) ?_
  refine lv_aload_n hx hb dDA_makePair_19 rfl (lv_at hl 0 rfl) ?_
  refine nw_get (C := "LatticeKeys$Dsa") (TT := T_DA) (N := 17) hx hb hts (wg_ft i_DA) hown hK hO k_h0 (kn := 39) (ci := 6) (fl := [(3, 16), (3, 22), (3, 37), (3, 40), (3, 97), (3, 105), (3, 114), (3, 123), (3, 131), (3, 140), (3, 141), (3, 142), (3, 143), (3, 144), (3, 145), (3, 146), (3, 147)]) rfl hP rfl 0 (by decide) (hts _ (wg_t kw_165)) (fun _ h9 => h9) (cd := (3, 16)) rfl dDA_makePair_20 (fun v23 hv23 => ?_)
  obtain ⟨r23, rfl, kr23⟩ := (show ∃ r : Nat, v23 = .ref r ∧ T r = some 16 from hv23)
  refine lv_aload_n hx hb dDA_makePair_23 rfl (lv_at hl 1 rfl) ?_
  refine nw_get (C := "LatticeKeys$DsaSet") (TT := T_DS) (N := 17) hx hb hts (wg_ft i_DS) hown hK hO k_st (kn := 9) (ci := 2) (fl := [(1, 4), (1, 4), (1, 2), (1, 3), (1, 39), (1, 32), (1, 18), (1, 131072), (1, 44), (1, 6), (1, 95232), (1, 80), (1, 78), (1, 1312), (1, 2560), (1, 2336), (1, 2420)]) rfl hP rfl 0 (by decide) (hts _ (wg_t kw_302)) (fun _ h9 => h9) (cd := (1, 4)) rfl dDA_makePair_24 (fun v24 hv24 => ?_)
  obtain rfl := (show v24 = .int (nI 4) from hv24)
  refine mp_v (cx := []) (wr := []) hP hD hS hA [] [] rfl rfl rfl (by decide) (va_runV (As := [.int (nI 4)]) (rest := []) F (N_SP_absorbByte l g _ T s22 pl hO hU r23 16 17 (nI 4) x24 x25 kr23 rfl rfl hx_24 hx_25 (by omega) (by omega)) (cwV 1 hts (wg_app (wg_c kw_671 (wg_c kw_590 (wg_c kw_591 (wg_c kw_2 wg_n)))) kw_592) rfl rfl rfl (by decide +kernel) ⟨by decide, by decide⟩) (pn_W "LatticeKeys$Sponge" (en_ok g) (ci := 3) (kn := 16) (fl := [(3, 17), (0, 0), (0, 0), (0, 0)]) hK hO kr23 rfl hP hD hS hA hE [] rfl rfl rfl) rfl rfl hl.1 rfl (lv_room (Nat.le_of_ble_eq_true rfl)) dDA_makePair_27 ⟨by omega, by omega⟩) (fun  u23 H locs hu23 hP hD hS => ?_)
  obtain ⟨s23, pl⟩ := u23
  obtain ⟨⟨eq23, hFc23, ⟨x27, hx_27, hb_27⟩, ⟨x28, hx_28, hb_28⟩, -⟩, hO⟩ := hu23
  have hO : okn g T s23 pl := hO
  have hP : va_P g.1 vcl ([] ++ pl) _ := hP
  have hD : va_D _ ([] ++ pl) := hD
  have hFc23 : frm (M_SP_absorbByte 16) s22 s23 := hFc23
  have hb_27 : x27 < x25 := hb_27
  have hb_28 : x28 = x25 := hb_28
  replace hR := bnd_step hR eq23
  have hF := frm_tr hF hFc23 (fun k hk => by unfold M_SP_absorbByte at hk; unfold M_DA_makePair_0; omega)
  refine W.widen (k := 0) (n := 0) (by omega) (by omega) ?_
  refine lv_aload_n hx hb dDA_makePair_30 rfl (lv_at hl 0 rfl) ?_
  refine nw_get (C := "LatticeKeys$Dsa") (TT := T_DA) (N := 17) hx hb hts (wg_ft i_DA) hown hK hO k_h0 (kn := 39) (ci := 6) (fl := [(3, 16), (3, 22), (3, 37), (3, 40), (3, 97), (3, 105), (3, 114), (3, 123), (3, 131), (3, 140), (3, 141), (3, 142), (3, 143), (3, 144), (3, 145), (3, 146), (3, 147)]) rfl hP rfl 0 (by decide) (hts _ (wg_t kw_165)) (fun _ h9 => h9) (cd := (3, 16)) rfl dDA_makePair_31 (fun v25 hv25 => ?_)
  obtain ⟨r24, rfl, kr24⟩ := (show ∃ r : Nat, v25 = .ref r ∧ T r = some 16 from hv25)
  refine lv_aload_n hx hb dDA_makePair_34 rfl (lv_at hl 1 rfl) ?_
  refine nw_get (C := "LatticeKeys$DsaSet") (TT := T_DS) (N := 17) hx hb hts (wg_ft i_DS) hown hK hO k_st (kn := 9) (ci := 2) (fl := [(1, 4), (1, 4), (1, 2), (1, 3), (1, 39), (1, 32), (1, 18), (1, 131072), (1, 44), (1, 6), (1, 95232), (1, 80), (1, 78), (1, 1312), (1, 2560), (1, 2336), (1, 2420)]) rfl hP rfl 1 (by decide) (hts _ (wg_t kw_305)) (fun _ h9 => h9) (cd := (1, 4)) rfl dDA_makePair_35 (fun v26 hv26 => ?_)
  obtain rfl := (show v26 = .int (nI 4) from hv26)
  refine mp_v (cx := []) (wr := []) hP hD hS hA [] [] rfl rfl rfl (by decide) (va_runV (As := [.int (nI 4)]) (rest := []) F (N_SP_absorbByte l g _ T s23 pl hO hU r24 16 17 (nI 4) x27 x28 kr24 rfl rfl hx_27 hx_28 (by omega) (by omega)) (cwV 1 hts (wg_app (wg_c kw_671 (wg_c kw_590 (wg_c kw_591 (wg_c kw_2 wg_n)))) kw_592) rfl rfl rfl (by decide +kernel) ⟨by decide, by decide⟩) (pn_W "LatticeKeys$Sponge" (en_ok g) (ci := 3) (kn := 16) (fl := [(3, 17), (0, 0), (0, 0), (0, 0)]) hK hO kr24 rfl hP hD hS hA hE [] rfl rfl rfl) rfl rfl hl.1 rfl (lv_room (Nat.le_of_ble_eq_true rfl)) dDA_makePair_38 ⟨by omega, by omega⟩) (fun  u24 H locs hu24 hP hD hS => ?_)
  obtain ⟨s24, pl⟩ := u24
  obtain ⟨⟨eq24, hFc24, ⟨x30, hx_30, hb_30⟩, ⟨x31, hx_31, hb_31⟩, -⟩, hO⟩ := hu24
  have hO : okn g T s24 pl := hO
  have hP : va_P g.1 vcl ([] ++ pl) _ := hP
  have hD : va_D _ ([] ++ pl) := hD
  have hFc24 : frm (M_SP_absorbByte 16) s23 s24 := hFc24
  have hb_30 : x30 < x28 := hb_30
  have hb_31 : x31 = x28 := hb_31
  replace hR := bnd_step hR eq24
  have hF := frm_tr hF hFc24 (fun k hk => by unfold M_SP_absorbByte at hk; unfold M_DA_makePair_0; omega)
  refine W.widen (k := 0) (n := 0) (by omega) (by omega) ?_
  refine lv_aload_n hx hb dDA_makePair_41 rfl (lv_at hl 0 rfl) ?_
  refine nw_get (C := "LatticeKeys$Dsa") (TT := T_DA) (N := 17) hx hb hts (wg_ft i_DA) hown hK hO k_h0 (kn := 39) (ci := 6) (fl := [(3, 16), (3, 22), (3, 37), (3, 40), (3, 97), (3, 105), (3, 114), (3, 123), (3, 131), (3, 140), (3, 141), (3, 142), (3, 143), (3, 144), (3, 145), (3, 146), (3, 147)]) rfl hP rfl 0 (by decide) (hts _ (wg_t kw_165)) (fun _ h9 => h9) (cd := (3, 16)) rfl dDA_makePair_42 (fun v27 hv27 => ?_)
  obtain ⟨r25, rfl, kr25⟩ := (show ∃ r : Nat, v27 = .ref r ∧ T r = some 16 from hv27)
  refine mp_v (cx := []) (wr := []) hP hD hS hA [] [] rfl rfl rfl (by decide) (va_runV (As := []) (rest := []) F (N_SP_finish l g _ T s24 pl hO hU r25 16 17 x30 x31 kr25 rfl rfl hx_30 hx_31 (by omega) (by omega)) (cwV 0 hts (wg_app (wg_c kw_672 (wg_c kw_611 (wg_c kw_612 (wg_c kw_2 wg_n)))) kw_613) rfl rfl rfl (by decide +kernel) ⟨by decide, by decide⟩) (pn_W "LatticeKeys$Sponge" (en_ok g) (ci := 3) (kn := 16) (fl := [(3, 17), (0, 0), (0, 0), (0, 0)]) hK hO kr25 rfl hP hD hS hA hE [] rfl rfl rfl) rfl rfl hl.1 rfl (lv_room (Nat.le_of_ble_eq_true rfl)) dDA_makePair_45 ⟨by omega, by omega⟩) (fun  u25 H locs hu25 hP hD hS => ?_)
  obtain ⟨s25, pl⟩ := u25
  obtain ⟨⟨eq25, hFc25, ⟨x33, hx_33, hb_33⟩, ⟨x34, hx_34, hb_34⟩, -⟩, hO⟩ := hu25
  have hO : okn g T s25 pl := hO
  have hP : va_P g.1 vcl ([] ++ pl) _ := hP
  have hD : va_D _ ([] ++ pl) := hD
  have hFc25 : frm (M_SP_finish 16) s24 s25 := hFc25
  have hb_33 : x33 = x31 := hb_33
  have hb_34 : x34 = x31 := hb_34
  replace hR := bnd_step hR eq25
  have hF := frm_tr hF hFc25 (fun k hk => by unfold M_SP_finish at hk; unfold M_DA_makePair_0; omega)
  refine W.widen (k := 0) (n := 0) (by omega) (by omega) ?_
  refine lv_aload_n hx hb dDA_makePair_48 rfl (lv_at hl 0 rfl) ?_
  refine nw_get (C := "LatticeKeys$Dsa") (TT := T_DA) (N := 17) hx hb hts (wg_ft i_DA) hown hK hO k_h0 (kn := 39) (ci := 6) (fl := [(3, 16), (3, 22), (3, 37), (3, 40), (3, 97), (3, 105), (3, 114), (3, 123), (3, 131), (3, 140), (3, 141), (3, 142), (3, 143), (3, 144), (3, 145), (3, 146), (3, 147)]) rfl hP rfl 0 (by decide) (hts _ (wg_t kw_165)) (fun _ h9 => h9) (cd := (3, 16)) rfl dDA_makePair_49 (fun v28 hv28 => ?_)
  obtain ⟨r26, rfl, kr26⟩ := (show ∃ r : Nat, v28 = .ref r ∧ T r = some 16 from hv28)
  refine lv_aload_n hx hb dDA_makePair_52 rfl (lv_at hl 0 rfl) ?_
  refine nw_get (C := "LatticeKeys$Dsa") (TT := T_DA) (N := 17) hx hb hts (wg_ft i_DA) hown hK hO k_h0 (kn := 39) (ci := 6) (fl := [(3, 16), (3, 22), (3, 37), (3, 40), (3, 97), (3, 105), (3, 114), (3, 123), (3, 131), (3, 140), (3, 141), (3, 142), (3, 143), (3, 144), (3, 145), (3, 146), (3, 147)]) rfl hP rfl 11 (by decide) (hts _ (wg_t kw_176)) (fun _ h9 => h9) (cd := (3, 142)) rfl dDA_makePair_53 (fun v29 hv29 => ?_)
  obtain ⟨r27, rfl, kr27⟩ := (show ∃ r : Nat, v29 = .ref r ∧ T r = some 142 from hv29)
  refine lv_iconst (v := nI 0) hx hb dDA_makePair_56 (by decide) ?_
  refine lv_sipush (v := nI 128) hx hb dDA_makePair_57 (by decide) ?_
  refine mp_v (cx := []) (wr := []) hP hD hS hA [] [] rfl rfl rfl (by decide) (va_runV (As := [.ref r27, .int (nI 0), .int (nI 128)]) (rest := []) F (N_SP_squeeze l g _ T s25 pl hO hU r26 r27 16 17 142 128 0 128 x33 x34 kr26 rfl rfl kr27 rfl hx_33 hx_34 (by omega) (by omega) (by omega) (by omega)) (cwV 3 hts (wg_app (wg_c kw_673 (wg_c kw_615 (wg_c kw_616 (wg_c kw_2 wg_n)))) kw_617) rfl rfl rfl (by decide +kernel) ⟨by decide, by decide⟩) (pn_W "LatticeKeys$Sponge" (en_ok g) (ci := 3) (kn := 16) (fl := [(3, 17), (0, 0), (0, 0), (0, 0)]) hK hO kr26 rfl hP hD hS hA hE [] rfl rfl rfl) rfl rfl hl.1 rfl (lv_room (Nat.le_of_ble_eq_true rfl)) dDA_makePair_60 ⟨by omega, by omega⟩) (fun  u26 H locs hu26 hP hD hS => ?_)
  obtain ⟨s26, pl⟩ := u26
  obtain ⟨⟨eq26, hFc26, ⟨x36, hx_36, hb_36⟩, ⟨x37, hx_37, hb_37⟩, -⟩, hO⟩ := hu26
  have hO : okn g T s26 pl := hO
  have hP : va_P g.1 vcl ([] ++ pl) _ := hP
  have hD : va_D _ ([] ++ pl) := hD
  have hFc26 : frm (M_SP_squeeze 16 142) s25 s26 := hFc26
  have hb_36 : x36 ≤ x34 := hb_36
  have hb_37 : x37 = x34 := hb_37
  replace hR := bnd_step hR eq26
  have hF := frm_tr hF hFc26 (fun k hk => by unfold M_SP_squeeze at hk; unfold M_DA_makePair_0; omega)
  refine W.widen (k := 0) (n := 0) (by omega) (by omega) ?_
  refine lv_aload_n hx hb dDA_makePair_63 rfl (lv_at hl 0 rfl) ?_
  refine nw_get (C := "LatticeKeys$Dsa") (TT := T_DA) (N := 17) hx hb hts (wg_ft i_DA) hown hK hO k_h0 (kn := 39) (ci := 6) (fl := [(3, 16), (3, 22), (3, 37), (3, 40), (3, 97), (3, 105), (3, 114), (3, 123), (3, 131), (3, 140), (3, 141), (3, 142), (3, 143), (3, 144), (3, 145), (3, 146), (3, 147)]) rfl hP rfl 11 (by decide) (hts _ (wg_t kw_176)) (fun _ h9 => h9) (cd := (3, 142)) rfl dDA_makePair_64 (fun v30 hv30 => ?_)
  obtain ⟨r28, rfl, kr28⟩ := (show ∃ r : Nat, v30 = .ref r ∧ T r = some 142 from hv30)
  refine lv_iconst (v := nI 0) hx hb dDA_makePair_67 (by decide) ?_
  refine lv_aload_n hx hb dDA_makePair_68 rfl (lv_at hl 3 rfl) ?_
  refine lv_iconst (v := nI 0) hx hb dDA_makePair_69 (by decide) ?_
  refine lv_bipush (v := nI 32) hx hb dDA_makePair_70 (by decide) ?_
  refine nw_copyb hx hb (hml.trans hl.1.symm) hown (hts _ (wg_t kw_674)) (hts _ (wg_t kw_526)) (hts _ (wg_t kw_525)) (hts _ (wg_t kw_19)) hK hO hU kr28 (k0 := 142) rfl k_pk (k1 := pp) n_pk hP hD hS (sp := 0) (dp := 0) (n := 32) (by omega) (by omega) (by omega) (by decide) (Nat.le_of_ble_eq_true rfl) dDA_makePair_72 (fun s27 pl H locs es21 hO hP hD hS => ?_)
  replace hR := bnd_step hR es21
  have hF := frm_sC hF es21 (by unfold M_DA_makePair_0; omega)
  refine lv_aload_n hx hb dDA_makePair_75 rfl (lv_at hl 0 rfl) ?_
  refine nw_get (C := "LatticeKeys$Dsa") (TT := T_DA) (N := 17) hx hb hts (wg_ft i_DA) hown hK hO k_h0 (kn := 39) (ci := 6) (fl := [(3, 16), (3, 22), (3, 37), (3, 40), (3, 97), (3, 105), (3, 114), (3, 123), (3, 131), (3, 140), (3, 141), (3, 142), (3, 143), (3, 144), (3, 145), (3, 146), (3, 147)]) rfl hP rfl 11 (by decide) (hts _ (wg_t kw_176)) (fun _ h9 => h9) (cd := (3, 142)) rfl dDA_makePair_76 (fun v31 hv31 => ?_)
  obtain ⟨r29, rfl, kr29⟩ := (show ∃ r : Nat, v31 = .ref r ∧ T r = some 142 from hv31)
  refine lv_iconst (v := nI 0) hx hb dDA_makePair_79 (by decide) ?_
  refine lv_aload hx hb dDA_makePair_80 (lv_at hl 4 rfl) ?_
  refine lv_iconst (v := nI 0) hx hb dDA_makePair_82 (by decide) ?_
  refine lv_bipush (v := nI 32) hx hb dDA_makePair_83 (by decide) ?_
  refine nw_copyb hx hb (hml.trans hl.1.symm) hown (hts _ (wg_t kw_674)) (hts _ (wg_t kw_526)) (hts _ (wg_t kw_525)) (hts _ (wg_t kw_19)) hK hO hU kr29 (k0 := 142) rfl k_sk (k1 := psk) n_sk hP hD hS (sp := 0) (dp := 0) (n := 32) (by omega) (by omega) (by omega) (by decide) (Nat.le_of_ble_eq_true rfl) dDA_makePair_85 (fun s28 pl H locs es22 hO hP hD hS => ?_)
  replace hR := bnd_step hR es22
  have hF := frm_sC hF es22 (by unfold M_DA_makePair_0; omega)
  refine lv_aload_n hx hb dDA_makePair_88 rfl (lv_at hl 0 rfl) ?_
  refine nw_get (C := "LatticeKeys$Dsa") (TT := T_DA) (N := 17) hx hb hts (wg_ft i_DA) hown hK hO k_h0 (kn := 39) (ci := 6) (fl := [(3, 16), (3, 22), (3, 37), (3, 40), (3, 97), (3, 105), (3, 114), (3, 123), (3, 131), (3, 140), (3, 141), (3, 142), (3, 143), (3, 144), (3, 145), (3, 146), (3, 147)]) rfl hP rfl 11 (by decide) (hts _ (wg_t kw_176)) (fun _ h9 => h9) (cd := (3, 142)) rfl dDA_makePair_89 (fun v32 hv32 => ?_)
  obtain ⟨r30, rfl, kr30⟩ := (show ∃ r : Nat, v32 = .ref r ∧ T r = some 142 from hv32)
  refine lv_bipush (v := nI 96) hx hb dDA_makePair_92 (by decide) ?_
  refine lv_aload hx hb dDA_makePair_94 (lv_at hl 4 rfl) ?_
  refine lv_bipush (v := nI 32) hx hb dDA_makePair_96 (by decide) ?_
  refine lv_bipush (v := nI 32) hx hb dDA_makePair_98 (by decide) ?_
  refine nw_copyb hx hb (hml.trans hl.1.symm) hown (hts _ (wg_t kw_674)) (hts _ (wg_t kw_526)) (hts _ (wg_t kw_525)) (hts _ (wg_t kw_19)) hK hO hU kr30 (k0 := 142) rfl k_sk (k1 := psk) n_sk hP hD hS (sp := 96) (dp := 32) (n := 32) (by omega) (by omega) (by omega) (by decide) (Nat.le_of_ble_eq_true rfl) dDA_makePair_100 (fun s29 pl H locs es23 hO hP hD hS => ?_)
  replace hR := bnd_step hR es23
  have hF := frm_sC hF es23 (by unfold M_DA_makePair_0; omega)
  refine lv_aload_n hx hb dDA_makePair_103 rfl (lv_at hl 0 rfl) ?_
  refine lv_aload_n hx hb dDA_makePair_104 rfl (lv_at hl 1 rfl) ?_
  refine lv_aload hx hb dDA_makePair_105 (lv_at hl 4 rfl) ?_
  refine mp_v (cx := []) (wr := []) hP hD hS hA [] [] rfl rfl rfl (by decide) (va_runV (As := [.ref st, .ref sk]) (rest := []) F (N_DA_writeSmallVectors_0 l g _ T s29 pl hO hU h0 st sk psk k_h0 k_st k_sk n_sk) (cwV 2 hts (wg_app (wg_c kw_675 (wg_c kw_677 (wg_c ks_11 (wg_c kw_5 wg_n)))) kw_678) rfl rfl rfl (by decide +kernel) ⟨by decide, by decide⟩) (pn_W "LatticeKeys$Dsa" (en_ok g) (ci := 6) (kn := 39) (fl := [(3, 16), (3, 22), (3, 37), (3, 40), (3, 97), (3, 105), (3, 114), (3, 123), (3, 131), (3, 140), (3, 141), (3, 142), (3, 143), (3, 144), (3, 145), (3, 146), (3, 147)]) hK hO k_h0 rfl hP hD hS hA hE [] rfl rfl rfl) rfl rfl hl.1 rfl (lv_room (Nat.le_of_ble_eq_true rfl)) dDA_makePair_107 ⟨by omega, by omega⟩) (fun  u27 H locs hu27 hP hD hS => ?_)
  obtain ⟨s30, pl⟩ := u27
  obtain ⟨⟨eq27, hFc27, -⟩, hO⟩ := hu27
  have hO : okn g T s30 pl := hO
  have hP : va_P g.1 vcl ([] ++ pl) _ := hP
  have hD : va_D _ ([] ++ pl) := hD
  have hFc27 : frm (M_DA_writeSmallVectors_0 psk) s29 s30 := hFc27
  replace hR := bnd_step hR eq27
  have hF := frm_tr hF hFc27 (fun k hk => by unfold M_DA_writeSmallVectors_0 at hk; unfold M_DA_makePair_0; omega)
  refine W.widen (k := 0) (n := 0) (by omega) (by omega) ?_
  refine lv_aload_n hx hb dDA_makePair_110 rfl (lv_at hl 0 rfl) ?_
  refine nw_get (C := "LatticeKeys$Dsa") (TT := T_DA) (N := 17) hx hb hts (wg_ft i_DA) hown hK hO k_h0 (kn := 39) (ci := 6) (fl := [(3, 16), (3, 22), (3, 37), (3, 40), (3, 97), (3, 105), (3, 114), (3, 123), (3, 131), (3, 140), (3, 141), (3, 142), (3, 143), (3, 144), (3, 145), (3, 146), (3, 147)]) rfl hP rfl 2 (by decide) (hts _ (wg_t kw_167)) (fun _ h9 => h9) (cd := (3, 37)) rfl dDA_makePair_111 (fun v33 hv33 => ?_)
  obtain ⟨r31, rfl, kr31⟩ := (show ∃ r : Nat, v33 = .ref r ∧ T r = some 37 from hv33)
  refine lv_aload_n hx hb dDA_makePair_114 rfl (lv_at hl 1 rfl) ?_
  refine lv_aload_n hx hb dDA_makePair_115 rfl (lv_at hl 3 rfl) ?_
  refine lv_aload_n hx hb dDA_makePair_116 rfl (lv_at hl 0 rfl) ?_
  refine nw_get (C := "LatticeKeys$Dsa") (TT := T_DA) (N := 17) hx hb hts (wg_ft i_DA) hown hK hO k_h0 (kn := 39) (ci := 6) (fl := [(3, 16), (3, 22), (3, 37), (3, 40), (3, 97), (3, 105), (3, 114), (3, 123), (3, 131), (3, 140), (3, 141), (3, 142), (3, 143), (3, 144), (3, 145), (3, 146), (3, 147)]) rfl hP rfl 3 (by decide) (hts _ (wg_t kw_168)) (fun _ h9 => h9) (cd := (3, 40)) rfl dDA_makePair_117 (fun v34 hv34 => ?_)
  obtain ⟨r32, rfl, kr32⟩ := (show ∃ r : Nat, v34 = .ref r ∧ T r = some 40 from hv34)
  refine mp_v (cx := []) (wr := []) hP hD hS hA [] [] rfl rfl rfl (by decide) (va_runV (As := [.ref st, .ref pk, .ref r32]) (rest := []) F (N_SA_expandMatrix_0 l g _ T s30 pl hO hU r31 st pk r32 pp 1312 kr31 k_st k_pk n_pk kr32 (by omega) (by omega)) (cwV 3 hts (wg_app (wg_c kw_703 (wg_c kw_704 (wg_c kw_705 (wg_c kw_6 wg_n)))) kw_706) rfl rfl rfl (by decide +kernel) ⟨by decide, by decide⟩) (pn_W "LatticeKeys$DsaSampler" (en_ok g) (ci := 7) (kn := 37) (fl := [(3, 18), (3, 38)]) hK hO kr31 rfl hP hD hS hA hE [] rfl rfl rfl) rfl rfl hl.1 rfl (lv_room (Nat.le_of_ble_eq_true rfl)) dDA_makePair_120 ⟨by omega, by omega⟩) (fun  u28 H locs hu28 hP hD hS => ?_)
  obtain ⟨s31, pl⟩ := u28
  obtain ⟨⟨eq28, hFc28, -⟩, hO⟩ := hu28
  have hO : okn g T s31 pl := hO
  have hP : va_P g.1 vcl ([] ++ pl) _ := hP
  have hD : va_D _ ([] ++ pl) := hD
  have hFc28 : frm (M_SA_expandMatrix_0) s30 s31 := hFc28
  replace hR := bnd_step hR eq28
  have hF := frm_tr hF hFc28 (fun k hk => by unfold M_SA_expandMatrix_0 at hk; unfold M_DA_makePair_0; omega)
  refine W.widen (k := 0) (n := 0) (by omega) (by omega) ?_
  refine lv_iconst (v := nI 0) hx hb dDA_makePair_123 (by decide) ?_
  refine lv_istore (lv' := [(5, .int (nI 0)), (0, .ref h0), (1, .ref st), (2, .ref ch), (3, .ref pk), (4, .ref sk)]) hx hb dDA_makePair_124 hl (by decide) rfl (fun ls hl => ?_)
  have lp21 : ∀ (n21 : Nat) (i21 : Nat) (s32 : Sto) (pl : va_W) (ls : Array Slot) (H : Heap) (locs : List Loc), n21 + i21 = 4 → frm (M_DA_makePair_0 pp psk) s s32 → F_DA_makePair_0 pch n pp psk s = F_DA_makePair_0_L0 pp psk n21 i21 s32 → lv_has ls 7 [(5, .int (nI i21)), (0, .ref h0), (1, .ref st), (3, .ref pk), (4, .ref sk)] → okn g T s32 pl → va_P g.1 vcl ([] ++ pl) H → va_D A ([] ++ pl) → va_S A s0.heap H locs → W p l e ({ frames := 6, cells := 0, slots := 0, locals := 176 } : Room) s0 m args below meth c H locs 0 0 (MQ below (va_Qv (fun (u : (Sto) × va_W) => (u.1 = F_DA_makePair_0 pch n pp psk s ∧ frm (M_DA_makePair_0 pp psk) s u.1 ∧ True) ∧ okn g T u.1 u.2) (po g.1 vcl A (fun (u : (Sto) × va_W) => [] ++ u.2)) A) args s0 0 0 A) (F0 m 126 ls []) := by
    intro n21
    induction n21 with
    | zero =>
      intro i21 s32 pl ls H locs hm21 hF hR hl hO hP hD hS
      refine lv_iload hx hb dDA_makePair_126 (lv_at hl 0 rfl) ?_
      refine lv_aload_n hx hb dDA_makePair_128 rfl (lv_at hl 2 rfl) ?_
      refine nw_get (C := "LatticeKeys$DsaSet") (TT := T_DS) (N := 17) hx hb hts (wg_ft i_DS) hown hK hO k_st (kn := 9) (ci := 2) (fl := [(1, 4), (1, 4), (1, 2), (1, 3), (1, 39), (1, 32), (1, 18), (1, 131072), (1, 44), (1, 6), (1, 95232), (1, 80), (1, 78), (1, 1312), (1, 2560), (1, 2336), (1, 2420)]) rfl hP rfl 1 (by decide) (hts _ (wg_t kw_305)) (fun _ h9 => h9) (cd := (1, 4)) rfl dDA_makePair_129 (fun v35 hv35 => ?_)
      obtain rfl := (show v35 = .int (nI 4) from hv35)
      refine mi_ge (tgt := 155) hx hb dDA_makePair_132 (by decide) (by omega) (by omega) (fun h21 => ?_) (fun h21 => absurd h21 (by omega))
      refine lv_sipush (v := nI 128) hx hb dDA_makePair_155 (by decide) ?_
      refine lv_bipush (v := nI 32) hx hb dDA_makePair_158 (by decide) ?_
      refine lv_aload_n hx hb dDA_makePair_160 rfl (lv_at hl 2 rfl) ?_
      refine nw_get (C := "LatticeKeys$DsaSet") (TT := T_DS) (N := 17) hx hb hts (wg_ft i_DS) hown hK hO k_st (kn := 9) (ci := 2) (fl := [(1, 4), (1, 4), (1, 2), (1, 3), (1, 39), (1, 32), (1, 18), (1, 131072), (1, 44), (1, 6), (1, 95232), (1, 80), (1, 78), (1, 1312), (1, 2560), (1, 2336), (1, 2420)]) rfl hP rfl 3 (by decide) (hts _ (wg_t kw_310)) (fun _ h9 => h9) (cd := (1, 3)) rfl dDA_makePair_161 (fun v36 hv36 => ?_)
      obtain rfl := (show v36 = .int (nI 3) from hv36)
      refine mi_imul hx hb dDA_makePair_164 ?_
      refine mi_as (show nI (32 * 3) = nI 96 from rfl) ?_
      refine lv_aload_n hx hb dDA_makePair_165 rfl (lv_at hl 2 rfl) ?_
      refine nw_get (C := "LatticeKeys$DsaSet") (TT := T_DS) (N := 17) hx hb hts (wg_ft i_DS) hown hK hO k_st (kn := 9) (ci := 2) (fl := [(1, 4), (1, 4), (1, 2), (1, 3), (1, 39), (1, 32), (1, 18), (1, 131072), (1, 44), (1, 6), (1, 95232), (1, 80), (1, 78), (1, 1312), (1, 2560), (1, 2336), (1, 2420)]) rfl hP rfl 0 (by decide) (hts _ (wg_t kw_302)) (fun _ h9 => h9) (cd := (1, 4)) rfl dDA_makePair_166 (fun v37 hv37 => ?_)
      obtain rfl := (show v37 = .int (nI 4) from hv37)
      refine lv_aload_n hx hb dDA_makePair_169 rfl (lv_at hl 2 rfl) ?_
      refine nw_get (C := "LatticeKeys$DsaSet") (TT := T_DS) (N := 17) hx hb hts (wg_ft i_DS) hown hK hO k_st (kn := 9) (ci := 2) (fl := [(1, 4), (1, 4), (1, 2), (1, 3), (1, 39), (1, 32), (1, 18), (1, 131072), (1, 44), (1, 6), (1, 95232), (1, 80), (1, 78), (1, 1312), (1, 2560), (1, 2336), (1, 2420)]) rfl hP rfl 1 (by decide) (hts _ (wg_t kw_305)) (fun _ h9 => h9) (cd := (1, 4)) rfl dDA_makePair_170 (fun v38 hv38 => ?_)
      obtain rfl := (show v38 = .int (nI 4) from hv38)
      refine mi_iadd hx hb dDA_makePair_173 ?_
      refine mi_as (show nI (4 + 4) = nI 8 from rfl) ?_
      refine mi_imul hx hb dDA_makePair_174 ?_
      refine mi_as (show nI (96 * 8) = nI 768 from rfl) ?_
      refine mi_iadd hx hb dDA_makePair_175 ?_
      refine mi_as (show nI (128 + 768) = nI 896 from rfl) ?_
      refine lv_istore (lv' := [(5, .int (nI 896)), (0, .ref h0), (1, .ref st), (3, .ref pk), (4, .ref sk)]) hx hb dDA_makePair_176 hl (by decide) rfl (fun ls hl => ?_)
      refine lv_iconst (v := nI 0) hx hb dDA_makePair_178 (by decide) ?_
      refine lv_istore (lv' := [(6, .int (nI 0)), (5, .int (nI 896)), (0, .ref h0), (1, .ref st), (3, .ref pk), (4, .ref sk)]) hx hb dDA_makePair_179 hl (by decide) rfl (fun ls hl => ?_)
      have lp22 : ∀ (n22 : Nat) (i22 : Nat) (s33 : Sto) (pl : va_W) (ls : Array Slot) (H : Heap) (locs : List Loc), n22 + i22 = 4 → frm (M_DA_makePair_0 pp psk) s s33 → F_DA_makePair_0 pch n pp psk s = F_DA_makePair_0_L1 pp psk n22 i22 s33 → lv_has ls 7 [(6, .int (nI i22)), (5, .int (nI 896)), (0, .ref h0), (1, .ref st), (3, .ref pk), (4, .ref sk)] → okn g T s33 pl → va_P g.1 vcl ([] ++ pl) H → va_D A ([] ++ pl) → va_S A s0.heap H locs → W p l e ({ frames := 6, cells := 0, slots := 0, locals := 176 } : Room) s0 m args below meth c H locs 0 0 (MQ below (va_Qv (fun (u : (Sto) × va_W) => (u.1 = F_DA_makePair_0 pch n pp psk s ∧ frm (M_DA_makePair_0 pp psk) s u.1 ∧ True) ∧ okn g T u.1 u.2) (po g.1 vcl A (fun (u : (Sto) × va_W) => [] ++ u.2)) A) args s0 0 0 A) (F0 m 181 ls []) := by
        intro n22
        induction n22 with
        | zero =>
          intro i22 s33 pl ls H locs hm22 hF hR hl hO hP hD hS
          refine lv_iload hx hb dDA_makePair_181 (lv_at hl 0 rfl) ?_
          refine lv_aload_n hx hb dDA_makePair_183 rfl (lv_at hl 3 rfl) ?_
          refine nw_get (C := "LatticeKeys$DsaSet") (TT := T_DS) (N := 17) hx hb hts (wg_ft i_DS) hown hK hO k_st (kn := 9) (ci := 2) (fl := [(1, 4), (1, 4), (1, 2), (1, 3), (1, 39), (1, 32), (1, 18), (1, 131072), (1, 44), (1, 6), (1, 95232), (1, 80), (1, 78), (1, 1312), (1, 2560), (1, 2336), (1, 2420)]) rfl hP rfl 0 (by decide) (hts _ (wg_t kw_302)) (fun _ h9 => h9) (cd := (1, 4)) rfl dDA_makePair_184 (fun v39 hv39 => ?_)
          obtain rfl := (show v39 = .int (nI 4) from hv39)
          refine mi_ge (tgt := 295) hx hb dDA_makePair_187 (by decide) (by omega) (by omega) (fun h22 => ?_) (fun h22 => absurd h22 (by omega))
          refine lv_aload_n hx hb dDA_makePair_295 rfl (lv_at hl 2 rfl) ?_
          refine lv_aload_n hx hb dDA_makePair_296 rfl (lv_at hl 4 rfl) ?_
          refine mp_v (cx := []) (wr := []) hP hD hS hA [] [] rfl rfl rfl (by decide) (va_runV (As := [.ref pk]) (rest := []) F (N_DA_digestOf l g _ T s33 pl hO hU h0 pk pp 1312 k_h0 k_pk n_pk (by omega)) (cwV 1 hts (wg_app (wg_c kw_736 (wg_c kw_738 (wg_c ks_18 (wg_c kw_5 wg_n)))) kw_739) rfl rfl rfl (by decide +kernel) ⟨by decide, by decide⟩) (pn_W "LatticeKeys$Dsa" (en_ok g) (ci := 6) (kn := 39) (fl := [(3, 16), (3, 22), (3, 37), (3, 40), (3, 97), (3, 105), (3, 114), (3, 123), (3, 131), (3, 140), (3, 141), (3, 142), (3, 143), (3, 144), (3, 145), (3, 146), (3, 147)]) hK hO k_h0 rfl hP hD hS hA hE [] rfl rfl rfl) rfl rfl hl.1 rfl (lv_room (Nat.le_of_ble_eq_true rfl)) dDA_makePair_297 ⟨by omega, by omega⟩) (fun  u29 H locs hu29 hP hD hS => ?_)
          obtain ⟨s34, pl⟩ := u29
          obtain ⟨⟨eq29, hFc29, -⟩, hO⟩ := hu29
          have hO : okn g T s34 pl := hO
          have hP : va_P g.1 vcl ([] ++ pl) _ := hP
          have hD : va_D _ ([] ++ pl) := hD
          have hFc29 : frm (M_DA_digestOf) s33 s34 := hFc29
          replace hR := bnd_step hR eq29
          have hF := frm_tr hF hFc29 (fun k hk => by unfold M_DA_digestOf at hk; unfold M_DA_makePair_0; omega)
          refine W.widen (k := 0) (n := 0) (by omega) (by omega) ?_
          refine lv_aload_n hx hb dDA_makePair_300 rfl (lv_at hl 2 rfl) ?_
          refine nw_get (C := "LatticeKeys$Dsa") (TT := T_DA) (N := 17) hx hb hts (wg_ft i_DA) hown hK hO k_h0 (kn := 39) (ci := 6) (fl := [(3, 16), (3, 22), (3, 37), (3, 40), (3, 97), (3, 105), (3, 114), (3, 123), (3, 131), (3, 140), (3, 141), (3, 142), (3, 143), (3, 144), (3, 145), (3, 146), (3, 147)]) rfl hP rfl 12 (by decide) (hts _ (wg_t kw_177)) (fun _ h9 => h9) (cd := (3, 143)) rfl dDA_makePair_301 (fun v40 hv40 => ?_)
          obtain ⟨r33, rfl, kr33⟩ := (show ∃ r : Nat, v40 = .ref r ∧ T r = some 143 from hv40)
          refine lv_iconst (v := nI 0) hx hb dDA_makePair_304 (by decide) ?_
          refine lv_aload hx hb dDA_makePair_305 (lv_at hl 5 rfl) ?_
          refine lv_bipush (v := nI 64) hx hb dDA_makePair_307 (by decide) ?_
          refine lv_bipush (v := nI 64) hx hb dDA_makePair_309 (by decide) ?_
          refine nw_copyb hx hb (hml.trans hl.1.symm) hown (hts _ (wg_t kw_674)) (hts _ (wg_t kw_526)) (hts _ (wg_t kw_525)) (hts _ (wg_t kw_19)) hK hO hU kr33 (k0 := 143) rfl k_sk (k1 := psk) n_sk hP hD hS (sp := 0) (dp := 64) (n := 64) (by omega) (by omega) (by omega) (by decide) (Nat.le_of_ble_eq_true rfl) dDA_makePair_311 (fun s35 pl H locs es24 hO hP hD hS => ?_)
          replace hR := bnd_step hR es24
          have hF := frm_sC hF es24 (by unfold M_DA_makePair_0; omega)
          exact mp_vret hx hb hr hlk hP hD hS (s35, pl) ⟨⟨hR.symm, hF, trivial⟩, hO⟩ [] rfl rfl rfl (by omega) (by omega) dDA_makePair_314
        | succ n22 ih22 =>
          intro i22 s33 pl ls H locs hm22 hF hR hl hO hP hD hS
          refine lv_iload hx hb dDA_makePair_181 (lv_at hl 0 rfl) ?_
          refine lv_aload_n hx hb dDA_makePair_183 rfl (lv_at hl 3 rfl) ?_
          refine nw_get (C := "LatticeKeys$DsaSet") (TT := T_DS) (N := 17) hx hb hts (wg_ft i_DS) hown hK hO k_st (kn := 9) (ci := 2) (fl := [(1, 4), (1, 4), (1, 2), (1, 3), (1, 39), (1, 32), (1, 18), (1, 131072), (1, 44), (1, 6), (1, 95232), (1, 80), (1, 78), (1, 1312), (1, 2560), (1, 2336), (1, 2420)]) rfl hP rfl 0 (by decide) (hts _ (wg_t kw_302)) (fun _ h9 => h9) (cd := (1, 4)) rfl dDA_makePair_184 (fun v41 hv41 => ?_)
          obtain rfl := (show v41 = .int (nI 4) from hv41)
          refine mi_ge (tgt := 295) hx hb dDA_makePair_187 (by decide) (by omega) (by omega) (fun h23 => absurd h23 (by omega)) (fun h23 => ?_)
          refine lv_aload_n hx hb dDA_makePair_190 rfl (lv_at hl 2 rfl) ?_
          refine lv_aload_n hx hb dDA_makePair_191 rfl (lv_at hl 3 rfl) ?_
          refine lv_iload hx hb dDA_makePair_192 (lv_at hl 0 rfl) ?_
          refine lv_aload_n hx hb dDA_makePair_194 rfl (lv_at hl 2 rfl) ?_
          refine nw_get (C := "LatticeKeys$Dsa") (TT := T_DA) (N := 17) hx hb hts (wg_ft i_DA) hown hK hO k_h0 (kn := 39) (ci := 6) (fl := [(3, 16), (3, 22), (3, 37), (3, 40), (3, 97), (3, 105), (3, 114), (3, 123), (3, 131), (3, 140), (3, 141), (3, 142), (3, 143), (3, 144), (3, 145), (3, 146), (3, 147)]) rfl hP rfl 4 (by decide) (hts _ (wg_t kw_169)) (fun _ h9 => h9) (cd := (3, 97)) rfl dDA_makePair_195 (fun v42 hv42 => ?_)
          obtain ⟨r34, rfl, kr34⟩ := (show ∃ r : Nat, v42 = .ref r ∧ T r = some 97 from hv42)
          refine mp_v (cx := []) (wr := []) hP hD hS hA [] [] rfl rfl rfl (by decide) (va_runV (As := [.ref st, .int (nI i22), .ref r34]) (rest := []) F (N_DA_multiplyRow_secret_0 l g _ T s33 pl hO hU h0 st r34 i22 k_h0 k_st kr34 (by omega)) (cwV 3 hts (wg_app (wg_c kw_712 (wg_c kw_714 (wg_c ks_15 (wg_c kw_5 wg_n)))) kw_715) rfl rfl rfl (by decide +kernel) ⟨by decide, by decide⟩) (pn_W "LatticeKeys$Dsa" (en_ok g) (ci := 6) (kn := 39) (fl := [(3, 16), (3, 22), (3, 37), (3, 40), (3, 97), (3, 105), (3, 114), (3, 123), (3, 131), (3, 140), (3, 141), (3, 142), (3, 143), (3, 144), (3, 145), (3, 146), (3, 147)]) hK hO k_h0 rfl hP hD hS hA hE [] rfl rfl rfl) rfl rfl hl.1 rfl (lv_room (Nat.le_of_ble_eq_true rfl)) dDA_makePair_198 ⟨by omega, by omega⟩) (fun  u30 H locs hu30 hP hD hS => ?_)
          obtain ⟨s36, pl⟩ := u30
          obtain ⟨⟨eq30, hFc30, -⟩, hO⟩ := hu30
          have hO : okn g T s36 pl := hO
          have hP : va_P g.1 vcl ([] ++ pl) _ := hP
          have hD : va_D _ ([] ++ pl) := hD
          have hFc30 : frm (M_DA_multiplyRow_secret_0) s33 s36 := hFc30
          replace hR := bnd_step hR eq30
          have hF := frm_tr hF hFc30 (fun k hk => by unfold M_DA_multiplyRow_secret_0 at hk; unfold M_DA_makePair_0; omega)
          refine W.widen (k := 0) (n := 0) (by omega) (by omega) ?_
          refine lv_aload_n hx hb dDA_makePair_201 rfl (lv_at hl 2 rfl) ?_
          refine nw_get (C := "LatticeKeys$Dsa") (TT := T_DA) (N := 17) hx hb hts (wg_ft i_DA) hown hK hO k_h0 (kn := 39) (ci := 6) (fl := [(3, 16), (3, 22), (3, 37), (3, 40), (3, 97), (3, 105), (3, 114), (3, 123), (3, 131), (3, 140), (3, 141), (3, 142), (3, 143), (3, 144), (3, 145), (3, 146), (3, 147)]) rfl hP rfl 1 (by decide) (hts _ (wg_t kw_166)) (fun _ h9 => h9) (cd := (3, 22)) rfl dDA_makePair_202 (fun v43 hv43 => ?_)
          obtain ⟨r35, rfl, kr35⟩ := (show ∃ r : Nat, v43 = .ref r ∧ T r = some 22 from hv43)
          refine lv_aload_n hx hb dDA_makePair_205 rfl (lv_at hl 2 rfl) ?_
          refine nw_get (C := "LatticeKeys$Dsa") (TT := T_DA) (N := 17) hx hb hts (wg_ft i_DA) hown hK hO k_h0 (kn := 39) (ci := 6) (fl := [(3, 16), (3, 22), (3, 37), (3, 40), (3, 97), (3, 105), (3, 114), (3, 123), (3, 131), (3, 140), (3, 141), (3, 142), (3, 143), (3, 144), (3, 145), (3, 146), (3, 147)]) rfl hP rfl 8 (by decide) (hts _ (wg_t kw_173)) (fun _ h9 => h9) (cd := (3, 131)) rfl dDA_makePair_206 (fun v44 hv44 => ?_)
          obtain ⟨r36, rfl, kr36⟩ := (show ∃ r : Nat, v44 = .ref r ∧ T r = some 131 from hv44)
          refine lv_iload hx hb dDA_makePair_209 (lv_at hl 0 rfl) ?_
          refine nw_aald3 hx hb hK hO kr36 (k := 131) (b := 132) rfl hP (by omega) (by omega) dDA_makePair_211 (fun r37 kr37 => ?_)
          have hn21 : nsp (132 + i22) = (0, 256, []) := rows_ok 132 8 (by decide) _ (by omega)
          refine mp_v (cx := []) (wr := []) hP hD hS hA [] [] rfl rfl rfl (by decide) (va_runV (As := [.ref r37]) (rest := []) F (N_RG_restore_8 l g _ T s36 pl hO hU r35 r37 (132 + i22) kr35 kr37 hn21) (cwV 1 hts (wg_app (wg_c kw_720 (wg_c kw_721 (wg_c kw_722 (wg_c kw_4 wg_n)))) kw_723) rfl rfl rfl (by decide +kernel) ⟨by decide, by decide⟩) (pn_W "LatticeKeys$Ring" (en_ok g) (ci := 4) (kn := 22) (fl := [(1, 8380417), (1, 8), (1, 8347681), (3, 23)]) hK hO kr35 rfl hP hD hS hA hE [] rfl rfl rfl) rfl rfl hl.1 rfl (lv_room (Nat.le_of_ble_eq_true rfl)) dDA_makePair_212 ⟨by omega, by omega⟩) (fun  u31 H locs hu31 hP hD hS => ?_)
          obtain ⟨s37, pl⟩ := u31
          obtain ⟨⟨eq31, hFc31, -⟩, hO⟩ := hu31
          have hO : okn g T s37 pl := hO
          have hP : va_P g.1 vcl ([] ++ pl) _ := hP
          have hD : va_D _ ([] ++ pl) := hD
          have hFc31 : frm (M_RG_restore_8 (132 + i22)) s36 s37 := hFc31
          replace hR := bnd_step hR eq31
          have hF := frm_tr hF hFc31 (fun k hk => by unfold M_RG_restore_8 at hk; unfold M_DA_makePair_0; omega)
          refine W.widen (k := 0) (n := 0) (by omega) (by omega) ?_
          refine lv_aload_n hx hb dDA_makePair_215 rfl (lv_at hl 2 rfl) ?_
          refine nw_get (C := "LatticeKeys$Dsa") (TT := T_DA) (N := 17) hx hb hts (wg_ft i_DA) hown hK hO k_h0 (kn := 39) (ci := 6) (fl := [(3, 16), (3, 22), (3, 37), (3, 40), (3, 97), (3, 105), (3, 114), (3, 123), (3, 131), (3, 140), (3, 141), (3, 142), (3, 143), (3, 144), (3, 145), (3, 146), (3, 147)]) rfl hP rfl 1 (by decide) (hts _ (wg_t kw_166)) (fun _ h9 => h9) (cd := (3, 22)) rfl dDA_makePair_216 (fun v45 hv45 => ?_)
          obtain ⟨r38, rfl, kr38⟩ := (show ∃ r : Nat, v45 = .ref r ∧ T r = some 22 from hv45)
          refine lv_aload_n hx hb dDA_makePair_219 rfl (lv_at hl 2 rfl) ?_
          refine nw_get (C := "LatticeKeys$Dsa") (TT := T_DA) (N := 17) hx hb hts (wg_ft i_DA) hown hK hO k_h0 (kn := 39) (ci := 6) (fl := [(3, 16), (3, 22), (3, 37), (3, 40), (3, 97), (3, 105), (3, 114), (3, 123), (3, 131), (3, 140), (3, 141), (3, 142), (3, 143), (3, 144), (3, 145), (3, 146), (3, 147)]) rfl hP rfl 8 (by decide) (hts _ (wg_t kw_173)) (fun _ h9 => h9) (cd := (3, 131)) rfl dDA_makePair_220 (fun v46 hv46 => ?_)
          obtain ⟨r39, rfl, kr39⟩ := (show ∃ r : Nat, v46 = .ref r ∧ T r = some 131 from hv46)
          refine lv_iload hx hb dDA_makePair_223 (lv_at hl 0 rfl) ?_
          refine nw_aald3 hx hb hK hO kr39 (k := 131) (b := 132) rfl hP (by omega) (by omega) dDA_makePair_225 (fun r40 kr40 => ?_)
          have hn22 : nsp (132 + i22) = (0, 256, []) := rows_ok 132 8 (by decide) _ (by omega)
          refine lv_aload_n hx hb dDA_makePair_226 rfl (lv_at hl 2 rfl) ?_
          refine nw_get (C := "LatticeKeys$Dsa") (TT := T_DA) (N := 17) hx hb hts (wg_ft i_DA) hown hK hO k_h0 (kn := 39) (ci := 6) (fl := [(3, 16), (3, 22), (3, 37), (3, 40), (3, 97), (3, 105), (3, 114), (3, 123), (3, 131), (3, 140), (3, 141), (3, 142), (3, 143), (3, 144), (3, 145), (3, 146), (3, 147)]) rfl hP rfl 5 (by decide) (hts _ (wg_t kw_170)) (fun _ h9 => h9) (cd := (3, 105)) rfl dDA_makePair_227 (fun v47 hv47 => ?_)
          obtain ⟨r41, rfl, kr41⟩ := (show ∃ r : Nat, v47 = .ref r ∧ T r = some 105 from hv47)
          refine lv_iload hx hb dDA_makePair_230 (lv_at hl 0 rfl) ?_
          refine nw_aald3 hx hb hK hO kr41 (k := 105) (b := 106) rfl hP (by omega) (by omega) dDA_makePair_232 (fun r42 kr42 => ?_)
          have hn23 : nsp (106 + i22) = (0, 256, []) := rows_ok 106 8 (by decide) _ (by omega)
          refine mp_v (cx := []) (wr := []) hP hD hS hA [] [] rfl rfl rfl (by decide) (va_runV (As := [.ref r40, .ref r42]) (rest := []) F (N_RG_add_8 l g _ T s37 pl hO hU r38 r40 r42 (132 + i22) (106 + i22) kr38 kr40 hn22 kr42 hn23) (cwV 2 hts (wg_app (wg_c kw_728 (wg_c kw_729 (wg_c kw_730 (wg_c kw_4 wg_n)))) kw_731) rfl rfl rfl (by decide +kernel) ⟨by decide, by decide⟩) (pn_W "LatticeKeys$Ring" (en_ok g) (ci := 4) (kn := 22) (fl := [(1, 8380417), (1, 8), (1, 8347681), (3, 23)]) hK hO kr38 rfl hP hD hS hA hE [] rfl rfl rfl) rfl rfl hl.1 rfl (lv_room (Nat.le_of_ble_eq_true rfl)) dDA_makePair_233 ⟨by omega, by omega⟩) (fun  u32 H locs hu32 hP hD hS => ?_)
          obtain ⟨s38, pl⟩ := u32
          obtain ⟨⟨eq32, hFc32, -⟩, hO⟩ := hu32
          have hO : okn g T s38 pl := hO
          have hP : va_P g.1 vcl ([] ++ pl) _ := hP
          have hD : va_D _ ([] ++ pl) := hD
          have hFc32 : frm (M_RG_add_8 (132 + i22)) s37 s38 := hFc32
          replace hR := bnd_step hR eq32
          have hF := frm_tr hF hFc32 (fun k hk => by unfold M_RG_add_8 at hk; unfold M_DA_makePair_0; omega)
          refine W.widen (k := 0) (n := 0) (by omega) (by omega) ?_
          refine lv_aload_n hx hb dDA_makePair_236 rfl (lv_at hl 2 rfl) ?_
          refine lv_aload_n hx hb dDA_makePair_237 rfl (lv_at hl 2 rfl) ?_
          refine nw_get (C := "LatticeKeys$Dsa") (TT := T_DA) (N := 17) hx hb hts (wg_ft i_DA) hown hK hO k_h0 (kn := 39) (ci := 6) (fl := [(3, 16), (3, 22), (3, 37), (3, 40), (3, 97), (3, 105), (3, 114), (3, 123), (3, 131), (3, 140), (3, 141), (3, 142), (3, 143), (3, 144), (3, 145), (3, 146), (3, 147)]) rfl hP rfl 8 (by decide) (hts _ (wg_t kw_173)) (fun _ h9 => h9) (cd := (3, 131)) rfl dDA_makePair_238 (fun v48 hv48 => ?_)
          obtain ⟨r43, rfl, kr43⟩ := (show ∃ r : Nat, v48 = .ref r ∧ T r = some 131 from hv48)
          refine lv_iload hx hb dDA_makePair_241 (lv_at hl 0 rfl) ?_
          refine nw_aald3 hx hb hK hO kr43 (k := 131) (b := 132) rfl hP (by omega) (by omega) dDA_makePair_243 (fun r44 kr44 => ?_)
          have hn24 : nsp (132 + i22) = (0, 256, []) := rows_ok 132 8 (by decide) _ (by omega)
          refine mp_v (cx := []) (wr := []) hP hD hS hA [] [] rfl rfl rfl (by decide) (va_runV (As := [.ref r44]) (rest := []) F (N_DA_splitRow l g _ T s38 pl hO hU h0 r44 (132 + i22) k_h0 kr44 hn24) (cwV 1 hts (wg_app (wg_c kw_732 (wg_c kw_734 (wg_c ks_17 (wg_c kw_5 wg_n)))) kw_735) rfl rfl rfl (by decide +kernel) ⟨by decide, by decide⟩) (pn_W "LatticeKeys$Dsa" (en_ok g) (ci := 6) (kn := 39) (fl := [(3, 16), (3, 22), (3, 37), (3, 40), (3, 97), (3, 105), (3, 114), (3, 123), (3, 131), (3, 140), (3, 141), (3, 142), (3, 143), (3, 144), (3, 145), (3, 146), (3, 147)]) hK hO k_h0 rfl hP hD hS hA hE [] rfl rfl rfl) rfl rfl hl.1 rfl (lv_room (Nat.le_of_ble_eq_true rfl)) dDA_makePair_244 ⟨by omega, by omega⟩) (fun  u33 H locs hu33 hP hD hS => ?_)
          obtain ⟨s39, pl⟩ := u33
          obtain ⟨⟨eq33, hFc33, -⟩, hO⟩ := hu33
          have hO : okn g T s39 pl := hO
          have hP : va_P g.1 vcl ([] ++ pl) _ := hP
          have hD : va_D _ ([] ++ pl) := hD
          have hFc33 : frm (M_DA_splitRow (132 + i22)) s38 s39 := hFc33
          replace hR := bnd_step hR eq33
          have hF := frm_tr hF hFc33 (fun k hk => by unfold M_DA_splitRow at hk; unfold M_DA_makePair_0; omega)
          refine W.widen (k := 0) (n := 0) (by omega) (by omega) ?_
          refine lv_aload_n hx hb dDA_makePair_247 rfl (lv_at hl 2 rfl) ?_
          refine nw_get (C := "LatticeKeys$Dsa") (TT := T_DA) (N := 17) hx hb hts (wg_ft i_DA) hown hK hO k_h0 (kn := 39) (ci := 6) (fl := [(3, 16), (3, 22), (3, 37), (3, 40), (3, 97), (3, 105), (3, 114), (3, 123), (3, 131), (3, 140), (3, 141), (3, 142), (3, 143), (3, 144), (3, 145), (3, 146), (3, 147)]) rfl hP rfl 8 (by decide) (hts _ (wg_t kw_173)) (fun _ h9 => h9) (cd := (3, 131)) rfl dDA_makePair_248 (fun v49 hv49 => ?_)
          obtain ⟨r45, rfl, kr45⟩ := (show ∃ r : Nat, v49 = .ref r ∧ T r = some 131 from hv49)
          refine lv_iload hx hb dDA_makePair_251 (lv_at hl 0 rfl) ?_
          refine nw_aald3 hx hb hK hO kr45 (k := 131) (b := 132) rfl hP (by omega) (by omega) dDA_makePair_253 (fun r46 kr46 => ?_)
          have hn25 : nsp (132 + i22) = (0, 256, []) := rows_ok 132 8 (by decide) _ (by omega)
          refine lv_bipush (v := nI 10) hx hb dDA_makePair_254 (by decide) ?_
          refine lv_aload_n hx hb dDA_makePair_256 rfl (lv_at hl 4 rfl) ?_
          refine lv_bipush (v := nI 32) hx hb dDA_makePair_257 (by decide) ?_
          refine lv_sipush (v := nI 320) hx hb dDA_makePair_259 (by decide) ?_
          refine lv_iload hx hb dDA_makePair_262 (lv_at hl 0 rfl) ?_
          refine mi_imul hx hb dDA_makePair_264 ?_
          refine mi_iadd hx hb dDA_makePair_265 ?_
          refine mp_v (cx := []) (wr := []) hP hD hS hA [] [] rfl rfl rfl (by decide) (va_runS (As := [.ref r46, .int (nI 10), .ref pk, .int (nI (32 + (320 * i22)))]) (rest := []) F (N_BT_pack l g _ T s39 pl hO hU r46 pk (132 + i22) 10 pp 1312 (32 + (320 * i22)) kr46 hn25 k_pk n_pk (by omega) (by omega) (by omega)) (va_cwS 4 hts (wg_app (wg_c kw_702 (wg_c kw_645 (wg_c kw_22 wg_n))) kw_646) rfl rfl rfl (by decide +kernel) ⟨by decide, by decide⟩) (pp_S (en_ok g) hP hD hS hA hE [] rfl rfl) rfl rfl hl.1 rfl (lv_room (Nat.le_of_ble_eq_true rfl)) dDA_makePair_266 ⟨by omega, by omega⟩) (fun  u34 H locs hu34 hP hD hS => ?_)
          obtain ⟨s40, pl⟩ := u34
          obtain ⟨⟨eq34, hFc34, -⟩, hO⟩ := hu34
          have hO : okn g T s40 pl := hO
          have hP : va_P g.1 vcl ([] ++ pl) _ := hP
          have hD : va_D _ ([] ++ pl) := hD
          have hFc34 : frm (M_BT_pack pp) s39 s40 := hFc34
          replace hR := bnd_step hR eq34
          have hF := frm_tr hF hFc34 (fun k hk => by unfold M_BT_pack at hk; unfold M_DA_makePair_0; omega)
          refine W.widen (k := 0) (n := 0) (by omega) (by omega) ?_
          refine lv_aload_n hx hb dDA_makePair_269 rfl (lv_at hl 2 rfl) ?_
          refine nw_get (C := "LatticeKeys$Dsa") (TT := T_DA) (N := 17) hx hb hts (wg_ft i_DA) hown hK hO k_h0 (kn := 39) (ci := 6) (fl := [(3, 16), (3, 22), (3, 37), (3, 40), (3, 97), (3, 105), (3, 114), (3, 123), (3, 131), (3, 140), (3, 141), (3, 142), (3, 143), (3, 144), (3, 145), (3, 146), (3, 147)]) rfl hP rfl 10 (by decide) (hts _ (wg_t kw_175)) (fun _ h9 => h9) (cd := (3, 141)) rfl dDA_makePair_270 (fun v50 hv50 => ?_)
          obtain ⟨r47, rfl, kr47⟩ := (show ∃ r : Nat, v50 = .ref r ∧ T r = some 141 from hv50)
          refine lv_bipush (v := nI 13) hx hb dDA_makePair_273 (by decide) ?_
          refine lv_aload hx hb dDA_makePair_275 (lv_at hl 5 rfl) ?_
          refine lv_iload hx hb dDA_makePair_277 (lv_at hl 1 rfl) ?_
          refine lv_sipush (v := nI 416) hx hb dDA_makePair_279 (by decide) ?_
          refine lv_iload hx hb dDA_makePair_282 (lv_at hl 0 rfl) ?_
          refine mi_imul hx hb dDA_makePair_284 ?_
          refine mi_iadd hx hb dDA_makePair_285 ?_
          refine mp_v (cx := []) (wr := []) hP hD hS hA [] [] rfl rfl rfl (by decide) (va_runS (As := [.ref r47, .int (nI 13), .ref sk, .int (nI (896 + (416 * i22)))]) (rest := []) F (N_BT_pack l g _ T s40 pl hO hU r47 sk 141 13 psk 2560 (896 + (416 * i22)) kr47 rfl k_sk n_sk (by omega) (by omega) (by omega)) (va_cwS 4 hts (wg_app (wg_c kw_702 (wg_c kw_645 (wg_c kw_22 wg_n))) kw_646) rfl rfl rfl (by decide +kernel) ⟨by decide, by decide⟩) (pp_S (en_ok g) hP hD hS hA hE [] rfl rfl) rfl rfl hl.1 rfl (lv_room (Nat.le_of_ble_eq_true rfl)) dDA_makePair_286 ⟨by omega, by omega⟩) (fun  u35 H locs hu35 hP hD hS => ?_)
          obtain ⟨s41, pl⟩ := u35
          obtain ⟨⟨eq35, hFc35, -⟩, hO⟩ := hu35
          have hO : okn g T s41 pl := hO
          have hP : va_P g.1 vcl ([] ++ pl) _ := hP
          have hD : va_D _ ([] ++ pl) := hD
          have hFc35 : frm (M_BT_pack psk) s40 s41 := hFc35
          replace hR := bnd_step hR eq35
          have hF := frm_tr hF hFc35 (fun k hk => by unfold M_BT_pack at hk; unfold M_DA_makePair_0; omega)
          refine W.widen (k := 0) (n := 0) (by omega) (by omega) ?_
          refine mi_iinc (k := 0) (x := i22) (d := 1) (y := i22 + 1) (lv' := [(6, .int (nI (i22 + 1))), (5, .int (nI 896)), (0, .ref h0), (1, .ref st), (3, .ref pk), (4, .ref sk)]) hx hb dDA_makePair_289 hl rfl (by decide) rfl (by decide) rfl (fun ls hl => ?_)
          refine lv_goto (tgt := 181) hx hb dDA_makePair_292 (by decide) ?_
          exact ih22 (i22 + 1) s41 pl ls H locs (by omega) hF hR (lv_sub hl [0, 1, 2, 3, 4, 5] rfl) hO hP hD hS
      exact lp22 4 0 s32 pl ls _ _ (by omega) hF hR (lv_sub hl [0, 1, 2, 3, 4, 5] rfl) hO hP hD hS
    | succ n21 ih21 =>
      intro i21 s32 pl ls H locs hm21 hF hR hl hO hP hD hS
      refine lv_iload hx hb dDA_makePair_126 (lv_at hl 0 rfl) ?_
      refine lv_aload_n hx hb dDA_makePair_128 rfl (lv_at hl 2 rfl) ?_
      refine nw_get (C := "LatticeKeys$DsaSet") (TT := T_DS) (N := 17) hx hb hts (wg_ft i_DS) hown hK hO k_st (kn := 9) (ci := 2) (fl := [(1, 4), (1, 4), (1, 2), (1, 3), (1, 39), (1, 32), (1, 18), (1, 131072), (1, 44), (1, 6), (1, 95232), (1, 80), (1, 78), (1, 1312), (1, 2560), (1, 2336), (1, 2420)]) rfl hP rfl 1 (by decide) (hts _ (wg_t kw_305)) (fun _ h9 => h9) (cd := (1, 4)) rfl dDA_makePair_129 (fun v51 hv51 => ?_)
      obtain rfl := (show v51 = .int (nI 4) from hv51)
      refine mi_ge (tgt := 155) hx hb dDA_makePair_132 (by decide) (by omega) (by omega) (fun h24 => absurd h24 (by omega)) (fun h24 => ?_)
      refine lv_aload_n hx hb dDA_makePair_135 rfl (lv_at hl 1 rfl) ?_
      refine nw_get (C := "LatticeKeys$Dsa") (TT := T_DA) (N := 17) hx hb hts (wg_ft i_DA) hown hK hO k_h0 (kn := 39) (ci := 6) (fl := [(3, 16), (3, 22), (3, 37), (3, 40), (3, 97), (3, 105), (3, 114), (3, 123), (3, 131), (3, 140), (3, 141), (3, 142), (3, 143), (3, 144), (3, 145), (3, 146), (3, 147)]) rfl hP rfl 1 (by decide) (hts _ (wg_t kw_166)) (fun _ h9 => h9) (cd := (3, 22)) rfl dDA_makePair_136 (fun v52 hv52 => ?_)
      obtain ⟨r48, rfl, kr48⟩ := (show ∃ r : Nat, v52 = .ref r ∧ T r = some 22 from hv52)
      refine lv_aload_n hx hb dDA_makePair_139 rfl (lv_at hl 1 rfl) ?_
      refine nw_get (C := "LatticeKeys$Dsa") (TT := T_DA) (N := 17) hx hb hts (wg_ft i_DA) hown hK hO k_h0 (kn := 39) (ci := 6) (fl := [(3, 16), (3, 22), (3, 37), (3, 40), (3, 97), (3, 105), (3, 114), (3, 123), (3, 131), (3, 140), (3, 141), (3, 142), (3, 143), (3, 144), (3, 145), (3, 146), (3, 147)]) rfl hP rfl 4 (by decide) (hts _ (wg_t kw_169)) (fun _ h9 => h9) (cd := (3, 97)) rfl dDA_makePair_140 (fun v53 hv53 => ?_)
      obtain ⟨r49, rfl, kr49⟩ := (show ∃ r : Nat, v53 = .ref r ∧ T r = some 97 from hv53)
      refine lv_iload hx hb dDA_makePair_143 (lv_at hl 0 rfl) ?_
      refine nw_aald3 hx hb hK hO kr49 (k := 97) (b := 98) rfl hP (by omega) (by omega) dDA_makePair_145 (fun r50 kr50 => ?_)
      have hn26 : nsp (98 + i21) = (0, 256, []) := rows_ok 98 7 (by decide) _ (by omega)
      refine mp_v (cx := []) (wr := []) hP hD hS hA [] [] rfl rfl rfl (by decide) (va_runV (As := [.ref r50]) (rest := []) F (N_RG_transform_8 l g _ T s32 pl hO hU r48 r50 (98 + i21) kr48 kr50 hn26) (cwV 1 hts (wg_app (wg_c kw_711 (wg_c kw_637 (wg_c kw_638 (wg_c kw_4 wg_n)))) kw_639) rfl rfl rfl (by decide +kernel) ⟨by decide, by decide⟩) (pn_W "LatticeKeys$Ring" (en_ok g) (ci := 4) (kn := 22) (fl := [(1, 8380417), (1, 8), (1, 8347681), (3, 23)]) hK hO kr48 rfl hP hD hS hA hE [] rfl rfl rfl) rfl rfl hl.1 rfl (lv_room (Nat.le_of_ble_eq_true rfl)) dDA_makePair_146 ⟨by omega, by omega⟩) (fun  u36 H locs hu36 hP hD hS => ?_)
      obtain ⟨s42, pl⟩ := u36
      obtain ⟨⟨eq36, hFc36, -⟩, hO⟩ := hu36
      have hO : okn g T s42 pl := hO
      have hP : va_P g.1 vcl ([] ++ pl) _ := hP
      have hD : va_D _ ([] ++ pl) := hD
      have hFc36 : frm (M_RG_transform_8 (98 + i21)) s32 s42 := hFc36
      replace hR := bnd_step hR eq36
      have hF := frm_tr hF hFc36 (fun k hk => by unfold M_RG_transform_8 at hk; unfold M_DA_makePair_0; omega)
      refine W.widen (k := 0) (n := 0) (by omega) (by omega) ?_
      refine mi_iinc (k := 0) (x := i21) (d := 1) (y := i21 + 1) (lv' := [(5, .int (nI (i21 + 1))), (0, .ref h0), (1, .ref st), (3, .ref pk), (4, .ref sk)]) hx hb dDA_makePair_149 hl rfl (by decide) rfl (by decide) rfl (fun ls hl => ?_)
      refine lv_goto (tgt := 126) hx hb dDA_makePair_152 (by decide) ?_
      exact ih21 (i21 + 1) s42 pl ls H locs (by omega) hF hR (lv_sub hl [0, 1, 2, 3, 4] rfl) hO hP hD hS
  exact lp21 4 0 s31 pl ls _ _ (by omega) hF hR (lv_sub hl [0, 1, 2, 4, 5] rfl) hO hP hD hS
def M_DA_makePair_1 (pp : Nat) (psk : Nat) (k : Nat) : Prop := (106 ≤ k ∧ k < 114) ∨ (132 ≤ k ∧ k < 140) ∨ (41 ≤ k ∧ k < 97) ∨ (98 ≤ k ∧ k < 105) ∨ k = 141 ∨ k = 142 ∨ k = 143 ∨ k = 16 ∨ k = 18 ∨ k = pp ∨ k = psk ∨ (0 : Nat) = 1
noncomputable def F_DA_makePair_1_L1 (pp : Nat) (psk : Nat) : Nat → Nat → Sto → Sto
  | 0, i22, s33 => bnd (F_DA_digestOf pp 1952 s33) fun s34 => bnd (sC s34 143 psk 0 64 64) fun s35 => s35
  | n22 + 1, i22, s33 => bnd (F_DA_multiplyRow_secret_1 i22 s33) fun s36 => bnd (F_RG_restore_8 (132 + i22) s36) fun s37 => bnd (F_RG_add_8 (132 + i22) (106 + i22) s37) fun s38 => bnd (F_DA_splitRow (132 + i22) s38) fun s39 => bnd (F_BT_pack (132 + i22) 10 pp 1952 (32 + (320 * i22)) s39) fun s40 => bnd (F_BT_pack 141 13 psk 4032 (1536 + (416 * i22)) s40) fun s41 => F_DA_makePair_1_L1 pp psk n22 (i22 + 1) s41
noncomputable def F_DA_makePair_1_L0 (pp : Nat) (psk : Nat) : Nat → Nat → Sto → Sto
  | 0, i21, s32 => F_DA_makePair_1_L1 pp psk 6 0 s32
  | n21 + 1, i21, s32 => bnd (F_RG_transform_8 (98 + i21) s32) fun s42 => F_DA_makePair_1_L0 pp psk n21 (i21 + 1) s42
noncomputable def F_DA_makePair_1 (pch : Nat) (n : Nat) (pp : Nat) (psk : Nat) (s : Sto) : Sto := bnd (F_SP_start_3 16 17 s) fun s21 => bnd (F_SP_absorb 16 17 pch n 0 32 s21) fun s22 => bnd (F_SP_absorbByte 16 17 (nI 6) s22) fun s23 => bnd (F_SP_absorbByte 16 17 (nI 5) s23) fun s24 => bnd (F_SP_finish 16 17 s24) fun s25 => bnd (F_SP_squeeze 16 17 142 128 0 128 s25) fun s26 => bnd (sC s26 142 pp 0 0 32) fun s27 => bnd (sC s27 142 psk 0 0 32) fun s28 => bnd (sC s28 142 psk 96 32 32) fun s29 => bnd (F_DA_writeSmallVectors_1 psk s29) fun s30 => bnd (F_SA_expandMatrix_1 pp 1952 s30) fun s31 => F_DA_makePair_1_L0 pp psk 5 0 s31
set_option maxHeartbeats 8000000 in
set_option maxRecDepth 100000 in
theorem N_DA_makePair_1 (l : Launch) (g : Gd) (sz : Nat) (T : TyN) (s : Sto) (pl : va_W) (hO : okn g T s pl) (hU : inj T) (h0 st ch pk sk : Nat) (pch : Nat) (n : Nat) (pp : Nat) (psk : Nat) (k_h0 : T h0 = some 39) (k_st : T st = some 10) (k_ch : T ch = some pch) (n_ch : nsp pch = (1, n, [])) (k_pk : T pk = some pp) (n_pk : nsp pp = (1, 1952, [])) (k_sk : T sk = some psk) (n_sk : nsp psk = (1, 4032, [])) (h1 : 32 ≤ n) (h2 : n < 65536)  : Met l y_DA_makePair w_DA_makePair ({ frames := 6, cells := 0, slots := 0, locals := 176 } : Room) (va_Pc [.ref h0, .ref st, .ref ch, .ref pk, .ref sk] (pr (en g) g.1 vcl sz ([] ++ pl))) (va_Qv (fun (u : (Sto) × va_W) => (u.1 = F_DA_makePair_1 pch n pp psk s ∧ frm (M_DA_makePair_1 pp psk) s u.1 ∧ True) ∧ okn g T u.1 u.2) (po g.1 vcl (va_A ([] ++ pl) sz) (fun (u : (Sto) × va_W) => [] ++ u.2)) (va_A ([] ++ pl) sz)) 0 0 (va_A ([] ++ pl) sz) := by
  refine mc_entry (cc := c_DA_makePair) (maxL := 7) (ret := none) (by decide) rfl (Nat.le_of_ble_eq_true rfl) ?_
  intro p e s0 m args below meth c ls F hr hlk hnm hsz hP hD hE hA hl
  obtain ⟨hx, hb, hml, hown, hts⟩ := id F
  have hK := hE.1
  generalize va_A ([] ++ pl) sz = A at hD hE hA ⊢
  have hS : va_S A s0.heap s0.heap [] := va_S.rf
  have hl : lv_has ls 7 [(0, .ref h0), (1, .ref st), (2, .ref ch), (3, .ref pk), (4, .ref sk)] := hl
  have hR : F_DA_makePair_1 pch n pp psk s = F_DA_makePair_1 pch n pp psk s := rfl
  have hF : frm (M_DA_makePair_1 pp psk) s s := frm_rf
  refine lv_aload_n hx hb dDA_makePair_0 rfl (lv_at hl 0 rfl) ?_
  refine nw_get (C := "LatticeKeys$Dsa") (TT := T_DA) (N := 17) hx hb hts (wg_ft i_DA) hown hK hO k_h0 (kn := 39) (ci := 6) (fl := [(3, 16), (3, 22), (3, 37), (3, 40), (3, 97), (3, 105), (3, 114), (3, 123), (3, 131), (3, 140), (3, 141), (3, 142), (3, 143), (3, 144), (3, 145), (3, 146), (3, 147)]) rfl hP rfl 0 (by decide) (hts _ (wg_t kw_165)) (fun _ h9 => h9) (cd := (3, 16)) rfl dDA_makePair_1 (fun v21 hv21 => ?_)
  obtain ⟨r21, rfl, kr21⟩ := (show ∃ r : Nat, v21 = .ref r ∧ T r = some 16 from hv21)
  refine lv_iconst (v := nI 3) hx hb dDA_makePair_4 (by decide) ?_
  refine mp_v (cx := []) (wr := []) hP hD hS hA [] [] rfl rfl rfl (by decide) (va_runV (As := [.int (nI 3)]) (rest := []) F (N_SP_start_3 l g _ T s pl hO hU r21 16 17 kr21 rfl rfl) (cwV 1 hts (wg_app (wg_c kw_669 (wg_c kw_579 (wg_c kw_580 (wg_c kw_2 wg_n)))) kw_581) rfl rfl rfl (by decide +kernel) ⟨by decide, by decide⟩) (pn_W "LatticeKeys$Sponge" (en_ok g) (ci := 3) (kn := 16) (fl := [(3, 17), (0, 0), (0, 0), (0, 0)]) hK hO kr21 rfl hP hD hS hA hE [] rfl rfl rfl) rfl rfl hl.1 rfl (lv_room (Nat.le_of_ble_eq_true rfl)) dDA_makePair_5 ⟨by omega, by omega⟩) (fun  u21 H locs hu21 hP hD hS => ?_)
  obtain ⟨s21, pl⟩ := u21
  obtain ⟨⟨eq21, hFc21, ⟨x21, hx_21, hb_21⟩, ⟨x22, hx_22, hb_22⟩, -⟩, hO⟩ := hu21
  have hO : okn g T s21 pl := hO
  have hP : va_P g.1 vcl ([] ++ pl) _ := hP
  have hD : va_D _ ([] ++ pl) := hD
  have hFc21 : frm (M_SP_start_3 16) s s21 := hFc21
  have hb_21 : x21 = 0 := hb_21
  have hb_22 : x22 = 136 := hb_22
  replace hR := bnd_step hR eq21
  have hF := frm_tr hF hFc21 (fun k hk => by unfold M_SP_start_3 at hk; unfold M_DA_makePair_1; omega)
  refine W.widen (k := 0) (n := 0) (by omega) (by omega) ?_
  refine lv_aload_n hx hb dDA_makePair_8 rfl (lv_at hl 0 rfl) ?_
  refine nw_get (C := "LatticeKeys$Dsa") (TT := T_DA) (N := 17) hx hb hts (wg_ft i_DA) hown hK hO k_h0 (kn := 39) (ci := 6) (fl := [(3, 16), (3, 22), (3, 37), (3, 40), (3, 97), (3, 105), (3, 114), (3, 123), (3, 131), (3, 140), (3, 141), (3, 142), (3, 143), (3, 144), (3, 145), (3, 146), (3, 147)]) rfl hP rfl 0 (by decide) (hts _ (wg_t kw_165)) (fun _ h9 => h9) (cd := (3, 16)) rfl dDA_makePair_9 (fun v22 hv22 => ?_)
  obtain ⟨r22, rfl, kr22⟩ := (show ∃ r : Nat, v22 = .ref r ∧ T r = some 16 from hv22)
  refine lv_aload_n hx hb dDA_makePair_12 rfl (lv_at hl 2 rfl) ?_
  refine lv_iconst (v := nI 0) hx hb dDA_makePair_13 (by decide) ?_
  refine lv_bipush (v := nI 32) hx hb dDA_makePair_14 (by decide) ?_
  refine mp_v (cx := []) (wr := []) hP hD hS hA [] [] rfl rfl rfl (by decide) (va_runV (As := [.ref ch, .int (nI 0), .int (nI 32)]) (rest := []) F (N_SP_absorb l g _ T s21 pl hO hU r22 ch 16 17 pch n 0 32 x21 x22 kr22 rfl rfl k_ch n_ch hx_21 hx_22 (by omega) (by omega) (by omega) (by omega)) (cwV 3 hts (wg_app (wg_c kw_670 (wg_c kw_586 (wg_c kw_587 (wg_c kw_2 wg_n)))) kw_588) rfl rfl rfl (by decide +kernel) ⟨by decide, by decide⟩) (pn_W "LatticeKeys$Sponge" (en_ok g) (ci := 3) (kn := 16) (fl := [(3, 17), (0, 0), (0, 0), (0, 0)]) hK hO kr22 rfl hP hD hS hA hE [] rfl rfl rfl) rfl rfl hl.1 rfl (lv_room (Nat.le_of_ble_eq_true rfl)) dDA_makePair_16 ⟨by omega, by omega⟩) (fun  u22 H locs hu22 hP hD hS => ?_)
  obtain ⟨s22, pl⟩ := u22
  obtain ⟨⟨eq22, hFc22, ⟨x24, hx_24, hb_24⟩, ⟨x25, hx_25, hb_25⟩, -⟩, hO⟩ := hu22
  have hO : okn g T s22 pl := hO
  have hP : va_P g.1 vcl ([] ++ pl) _ := hP
  have hD : va_D _ ([] ++ pl) := hD
  have hFc22 : frm (M_SP_absorb 16) s21 s22 := hFc22
  have hb_24 : x24 < x22 := hb_24
  have hb_25 : x25 = x22 := hb_25
  replace hR := bnd_step hR eq22
  have hF := frm_tr hF hFc22 (fun k hk => by unfold M_SP_absorb at hk; unfold M_DA_makePair_1; omega)
  refine W.widen (k := 0) (n := 0) (by omega) (by omega) ?_
  refine lv_aload_n hx hb dDA_makePair_19 rfl (lv_at hl 0 rfl) ?_
  refine nw_get (C := "LatticeKeys$Dsa") (TT := T_DA) (N := 17) hx hb hts (wg_ft i_DA) hown hK hO k_h0 (kn := 39) (ci := 6) (fl := [(3, 16), (3, 22), (3, 37), (3, 40), (3, 97), (3, 105), (3, 114), (3, 123), (3, 131), (3, 140), (3, 141), (3, 142), (3, 143), (3, 144), (3, 145), (3, 146), (3, 147)]) rfl hP rfl 0 (by decide) (hts _ (wg_t kw_165)) (fun _ h9 => h9) (cd := (3, 16)) rfl dDA_makePair_20 (fun v23 hv23 => ?_)
  obtain ⟨r23, rfl, kr23⟩ := (show ∃ r : Nat, v23 = .ref r ∧ T r = some 16 from hv23)
  refine lv_aload_n hx hb dDA_makePair_23 rfl (lv_at hl 1 rfl) ?_
  refine nw_get (C := "LatticeKeys$DsaSet") (TT := T_DS) (N := 17) hx hb hts (wg_ft i_DS) hown hK hO k_st (kn := 10) (ci := 2) (fl := [(1, 6), (1, 5), (1, 4), (1, 4), (1, 49), (1, 48), (1, 20), (1, 524288), (1, 16), (1, 4), (1, 261888), (1, 55), (1, 196), (1, 1952), (1, 4032), (1, 3248), (1, 3309)]) rfl hP rfl 0 (by decide) (hts _ (wg_t kw_302)) (fun _ h9 => h9) (cd := (1, 6)) rfl dDA_makePair_24 (fun v24 hv24 => ?_)
  obtain rfl := (show v24 = .int (nI 6) from hv24)
  refine mp_v (cx := []) (wr := []) hP hD hS hA [] [] rfl rfl rfl (by decide) (va_runV (As := [.int (nI 6)]) (rest := []) F (N_SP_absorbByte l g _ T s22 pl hO hU r23 16 17 (nI 6) x24 x25 kr23 rfl rfl hx_24 hx_25 (by omega) (by omega)) (cwV 1 hts (wg_app (wg_c kw_671 (wg_c kw_590 (wg_c kw_591 (wg_c kw_2 wg_n)))) kw_592) rfl rfl rfl (by decide +kernel) ⟨by decide, by decide⟩) (pn_W "LatticeKeys$Sponge" (en_ok g) (ci := 3) (kn := 16) (fl := [(3, 17), (0, 0), (0, 0), (0, 0)]) hK hO kr23 rfl hP hD hS hA hE [] rfl rfl rfl) rfl rfl hl.1 rfl (lv_room (Nat.le_of_ble_eq_true rfl)) dDA_makePair_27 ⟨by omega, by omega⟩) (fun  u23 H locs hu23 hP hD hS => ?_)
  obtain ⟨s23, pl⟩ := u23
  obtain ⟨⟨eq23, hFc23, ⟨x27, hx_27, hb_27⟩, ⟨x28, hx_28, hb_28⟩, -⟩, hO⟩ := hu23
  have hO : okn g T s23 pl := hO
  have hP : va_P g.1 vcl ([] ++ pl) _ := hP
  have hD : va_D _ ([] ++ pl) := hD
  have hFc23 : frm (M_SP_absorbByte 16) s22 s23 := hFc23
  have hb_27 : x27 < x25 := hb_27
  have hb_28 : x28 = x25 := hb_28
  replace hR := bnd_step hR eq23
  have hF := frm_tr hF hFc23 (fun k hk => by unfold M_SP_absorbByte at hk; unfold M_DA_makePair_1; omega)
  refine W.widen (k := 0) (n := 0) (by omega) (by omega) ?_
  refine lv_aload_n hx hb dDA_makePair_30 rfl (lv_at hl 0 rfl) ?_
  refine nw_get (C := "LatticeKeys$Dsa") (TT := T_DA) (N := 17) hx hb hts (wg_ft i_DA) hown hK hO k_h0 (kn := 39) (ci := 6) (fl := [(3, 16), (3, 22), (3, 37), (3, 40), (3, 97), (3, 105), (3, 114), (3, 123), (3, 131), (3, 140), (3, 141), (3, 142), (3, 143), (3, 144), (3, 145), (3, 146), (3, 147)]) rfl hP rfl 0 (by decide) (hts _ (wg_t kw_165)) (fun _ h9 => h9) (cd := (3, 16)) rfl dDA_makePair_31 (fun v25 hv25 => ?_)
  obtain ⟨r24, rfl, kr24⟩ := (show ∃ r : Nat, v25 = .ref r ∧ T r = some 16 from hv25)
  refine lv_aload_n hx hb dDA_makePair_34 rfl (lv_at hl 1 rfl) ?_
  refine nw_get (C := "LatticeKeys$DsaSet") (TT := T_DS) (N := 17) hx hb hts (wg_ft i_DS) hown hK hO k_st (kn := 10) (ci := 2) (fl := [(1, 6), (1, 5), (1, 4), (1, 4), (1, 49), (1, 48), (1, 20), (1, 524288), (1, 16), (1, 4), (1, 261888), (1, 55), (1, 196), (1, 1952), (1, 4032), (1, 3248), (1, 3309)]) rfl hP rfl 1 (by decide) (hts _ (wg_t kw_305)) (fun _ h9 => h9) (cd := (1, 5)) rfl dDA_makePair_35 (fun v26 hv26 => ?_)
  obtain rfl := (show v26 = .int (nI 5) from hv26)
  refine mp_v (cx := []) (wr := []) hP hD hS hA [] [] rfl rfl rfl (by decide) (va_runV (As := [.int (nI 5)]) (rest := []) F (N_SP_absorbByte l g _ T s23 pl hO hU r24 16 17 (nI 5) x27 x28 kr24 rfl rfl hx_27 hx_28 (by omega) (by omega)) (cwV 1 hts (wg_app (wg_c kw_671 (wg_c kw_590 (wg_c kw_591 (wg_c kw_2 wg_n)))) kw_592) rfl rfl rfl (by decide +kernel) ⟨by decide, by decide⟩) (pn_W "LatticeKeys$Sponge" (en_ok g) (ci := 3) (kn := 16) (fl := [(3, 17), (0, 0), (0, 0), (0, 0)]) hK hO kr24 rfl hP hD hS hA hE [] rfl rfl rfl) rfl rfl hl.1 rfl (lv_room (Nat.le_of_ble_eq_true rfl)) dDA_makePair_38 ⟨by omega, by omega⟩) (fun  u24 H locs hu24 hP hD hS => ?_)
  obtain ⟨s24, pl⟩ := u24
  obtain ⟨⟨eq24, hFc24, ⟨x30, hx_30, hb_30⟩, ⟨x31, hx_31, hb_31⟩, -⟩, hO⟩ := hu24
  have hO : okn g T s24 pl := hO
  have hP : va_P g.1 vcl ([] ++ pl) _ := hP
  have hD : va_D _ ([] ++ pl) := hD
  have hFc24 : frm (M_SP_absorbByte 16) s23 s24 := hFc24
  have hb_30 : x30 < x28 := hb_30
  have hb_31 : x31 = x28 := hb_31
  replace hR := bnd_step hR eq24
  have hF := frm_tr hF hFc24 (fun k hk => by unfold M_SP_absorbByte at hk; unfold M_DA_makePair_1; omega)
  refine W.widen (k := 0) (n := 0) (by omega) (by omega) ?_
  refine lv_aload_n hx hb dDA_makePair_41 rfl (lv_at hl 0 rfl) ?_
  refine nw_get (C := "LatticeKeys$Dsa") (TT := T_DA) (N := 17) hx hb hts (wg_ft i_DA) hown hK hO k_h0 (kn := 39) (ci := 6) (fl := [(3, 16), (3, 22), (3, 37), (3, 40), (3, 97), (3, 105), (3, 114), (3, 123), (3, 131), (3, 140), (3, 141), (3, 142), (3, 143), (3, 144), (3, 145), (3, 146), (3, 147)]) rfl hP rfl 0 (by decide) (hts _ (wg_t kw_165)) (fun _ h9 => h9) (cd := (3, 16)) rfl dDA_makePair_42 (fun v27 hv27 => ?_)
  obtain ⟨r25, rfl, kr25⟩ := (show ∃ r : Nat, v27 = .ref r ∧ T r = some 16 from hv27)
  refine mp_v (cx := []) (wr := []) hP hD hS hA [] [] rfl rfl rfl (by decide) (va_runV (As := []) (rest := []) F (N_SP_finish l g _ T s24 pl hO hU r25 16 17 x30 x31 kr25 rfl rfl hx_30 hx_31 (by omega) (by omega)) (cwV 0 hts (wg_app (wg_c kw_672 (wg_c kw_611 (wg_c kw_612 (wg_c kw_2 wg_n)))) kw_613) rfl rfl rfl (by decide +kernel) ⟨by decide, by decide⟩) (pn_W "LatticeKeys$Sponge" (en_ok g) (ci := 3) (kn := 16) (fl := [(3, 17), (0, 0), (0, 0), (0, 0)]) hK hO kr25 rfl hP hD hS hA hE [] rfl rfl rfl) rfl rfl hl.1 rfl (lv_room (Nat.le_of_ble_eq_true rfl)) dDA_makePair_45 ⟨by omega, by omega⟩) (fun  u25 H locs hu25 hP hD hS => ?_)
  obtain ⟨s25, pl⟩ := u25
  obtain ⟨⟨eq25, hFc25, ⟨x33, hx_33, hb_33⟩, ⟨x34, hx_34, hb_34⟩, -⟩, hO⟩ := hu25
  have hO : okn g T s25 pl := hO
  have hP : va_P g.1 vcl ([] ++ pl) _ := hP
  have hD : va_D _ ([] ++ pl) := hD
  have hFc25 : frm (M_SP_finish 16) s24 s25 := hFc25
  have hb_33 : x33 = x31 := hb_33
  have hb_34 : x34 = x31 := hb_34
  replace hR := bnd_step hR eq25
  have hF := frm_tr hF hFc25 (fun k hk => by unfold M_SP_finish at hk; unfold M_DA_makePair_1; omega)
  refine W.widen (k := 0) (n := 0) (by omega) (by omega) ?_
  refine lv_aload_n hx hb dDA_makePair_48 rfl (lv_at hl 0 rfl) ?_
  refine nw_get (C := "LatticeKeys$Dsa") (TT := T_DA) (N := 17) hx hb hts (wg_ft i_DA) hown hK hO k_h0 (kn := 39) (ci := 6) (fl := [(3, 16), (3, 22), (3, 37), (3, 40), (3, 97), (3, 105), (3, 114), (3, 123), (3, 131), (3, 140), (3, 141), (3, 142), (3, 143), (3, 144), (3, 145), (3, 146), (3, 147)]) rfl hP rfl 0 (by decide) (hts _ (wg_t kw_165)) (fun _ h9 => h9) (cd := (3, 16)) rfl dDA_makePair_49 (fun v28 hv28 => ?_)
  obtain ⟨r26, rfl, kr26⟩ := (show ∃ r : Nat, v28 = .ref r ∧ T r = some 16 from hv28)
  refine lv_aload_n hx hb dDA_makePair_52 rfl (lv_at hl 0 rfl) ?_
  refine nw_get (C := "LatticeKeys$Dsa") (TT := T_DA) (N := 17) hx hb hts (wg_ft i_DA) hown hK hO k_h0 (kn := 39) (ci := 6) (fl := [(3, 16), (3, 22), (3, 37), (3, 40), (3, 97), (3, 105), (3, 114), (3, 123), (3, 131), (3, 140), (3, 141), (3, 142), (3, 143), (3, 144), (3, 145), (3, 146), (3, 147)]) rfl hP rfl 11 (by decide) (hts _ (wg_t kw_176)) (fun _ h9 => h9) (cd := (3, 142)) rfl dDA_makePair_53 (fun v29 hv29 => ?_)
  obtain ⟨r27, rfl, kr27⟩ := (show ∃ r : Nat, v29 = .ref r ∧ T r = some 142 from hv29)
  refine lv_iconst (v := nI 0) hx hb dDA_makePair_56 (by decide) ?_
  refine lv_sipush (v := nI 128) hx hb dDA_makePair_57 (by decide) ?_
  refine mp_v (cx := []) (wr := []) hP hD hS hA [] [] rfl rfl rfl (by decide) (va_runV (As := [.ref r27, .int (nI 0), .int (nI 128)]) (rest := []) F (N_SP_squeeze l g _ T s25 pl hO hU r26 r27 16 17 142 128 0 128 x33 x34 kr26 rfl rfl kr27 rfl hx_33 hx_34 (by omega) (by omega) (by omega) (by omega)) (cwV 3 hts (wg_app (wg_c kw_673 (wg_c kw_615 (wg_c kw_616 (wg_c kw_2 wg_n)))) kw_617) rfl rfl rfl (by decide +kernel) ⟨by decide, by decide⟩) (pn_W "LatticeKeys$Sponge" (en_ok g) (ci := 3) (kn := 16) (fl := [(3, 17), (0, 0), (0, 0), (0, 0)]) hK hO kr26 rfl hP hD hS hA hE [] rfl rfl rfl) rfl rfl hl.1 rfl (lv_room (Nat.le_of_ble_eq_true rfl)) dDA_makePair_60 ⟨by omega, by omega⟩) (fun  u26 H locs hu26 hP hD hS => ?_)
  obtain ⟨s26, pl⟩ := u26
  obtain ⟨⟨eq26, hFc26, ⟨x36, hx_36, hb_36⟩, ⟨x37, hx_37, hb_37⟩, -⟩, hO⟩ := hu26
  have hO : okn g T s26 pl := hO
  have hP : va_P g.1 vcl ([] ++ pl) _ := hP
  have hD : va_D _ ([] ++ pl) := hD
  have hFc26 : frm (M_SP_squeeze 16 142) s25 s26 := hFc26
  have hb_36 : x36 ≤ x34 := hb_36
  have hb_37 : x37 = x34 := hb_37
  replace hR := bnd_step hR eq26
  have hF := frm_tr hF hFc26 (fun k hk => by unfold M_SP_squeeze at hk; unfold M_DA_makePair_1; omega)
  refine W.widen (k := 0) (n := 0) (by omega) (by omega) ?_
  refine lv_aload_n hx hb dDA_makePair_63 rfl (lv_at hl 0 rfl) ?_
  refine nw_get (C := "LatticeKeys$Dsa") (TT := T_DA) (N := 17) hx hb hts (wg_ft i_DA) hown hK hO k_h0 (kn := 39) (ci := 6) (fl := [(3, 16), (3, 22), (3, 37), (3, 40), (3, 97), (3, 105), (3, 114), (3, 123), (3, 131), (3, 140), (3, 141), (3, 142), (3, 143), (3, 144), (3, 145), (3, 146), (3, 147)]) rfl hP rfl 11 (by decide) (hts _ (wg_t kw_176)) (fun _ h9 => h9) (cd := (3, 142)) rfl dDA_makePair_64 (fun v30 hv30 => ?_)
  obtain ⟨r28, rfl, kr28⟩ := (show ∃ r : Nat, v30 = .ref r ∧ T r = some 142 from hv30)
  refine lv_iconst (v := nI 0) hx hb dDA_makePair_67 (by decide) ?_
  refine lv_aload_n hx hb dDA_makePair_68 rfl (lv_at hl 3 rfl) ?_
  refine lv_iconst (v := nI 0) hx hb dDA_makePair_69 (by decide) ?_
  refine lv_bipush (v := nI 32) hx hb dDA_makePair_70 (by decide) ?_
  refine nw_copyb hx hb (hml.trans hl.1.symm) hown (hts _ (wg_t kw_674)) (hts _ (wg_t kw_526)) (hts _ (wg_t kw_525)) (hts _ (wg_t kw_19)) hK hO hU kr28 (k0 := 142) rfl k_pk (k1 := pp) n_pk hP hD hS (sp := 0) (dp := 0) (n := 32) (by omega) (by omega) (by omega) (by decide) (Nat.le_of_ble_eq_true rfl) dDA_makePair_72 (fun s27 pl H locs es21 hO hP hD hS => ?_)
  replace hR := bnd_step hR es21
  have hF := frm_sC hF es21 (by unfold M_DA_makePair_1; omega)
  refine lv_aload_n hx hb dDA_makePair_75 rfl (lv_at hl 0 rfl) ?_
  refine nw_get (C := "LatticeKeys$Dsa") (TT := T_DA) (N := 17) hx hb hts (wg_ft i_DA) hown hK hO k_h0 (kn := 39) (ci := 6) (fl := [(3, 16), (3, 22), (3, 37), (3, 40), (3, 97), (3, 105), (3, 114), (3, 123), (3, 131), (3, 140), (3, 141), (3, 142), (3, 143), (3, 144), (3, 145), (3, 146), (3, 147)]) rfl hP rfl 11 (by decide) (hts _ (wg_t kw_176)) (fun _ h9 => h9) (cd := (3, 142)) rfl dDA_makePair_76 (fun v31 hv31 => ?_)
  obtain ⟨r29, rfl, kr29⟩ := (show ∃ r : Nat, v31 = .ref r ∧ T r = some 142 from hv31)
  refine lv_iconst (v := nI 0) hx hb dDA_makePair_79 (by decide) ?_
  refine lv_aload hx hb dDA_makePair_80 (lv_at hl 4 rfl) ?_
  refine lv_iconst (v := nI 0) hx hb dDA_makePair_82 (by decide) ?_
  refine lv_bipush (v := nI 32) hx hb dDA_makePair_83 (by decide) ?_
  refine nw_copyb hx hb (hml.trans hl.1.symm) hown (hts _ (wg_t kw_674)) (hts _ (wg_t kw_526)) (hts _ (wg_t kw_525)) (hts _ (wg_t kw_19)) hK hO hU kr29 (k0 := 142) rfl k_sk (k1 := psk) n_sk hP hD hS (sp := 0) (dp := 0) (n := 32) (by omega) (by omega) (by omega) (by decide) (Nat.le_of_ble_eq_true rfl) dDA_makePair_85 (fun s28 pl H locs es22 hO hP hD hS => ?_)
  replace hR := bnd_step hR es22
  have hF := frm_sC hF es22 (by unfold M_DA_makePair_1; omega)
  refine lv_aload_n hx hb dDA_makePair_88 rfl (lv_at hl 0 rfl) ?_
  refine nw_get (C := "LatticeKeys$Dsa") (TT := T_DA) (N := 17) hx hb hts (wg_ft i_DA) hown hK hO k_h0 (kn := 39) (ci := 6) (fl := [(3, 16), (3, 22), (3, 37), (3, 40), (3, 97), (3, 105), (3, 114), (3, 123), (3, 131), (3, 140), (3, 141), (3, 142), (3, 143), (3, 144), (3, 145), (3, 146), (3, 147)]) rfl hP rfl 11 (by decide) (hts _ (wg_t kw_176)) (fun _ h9 => h9) (cd := (3, 142)) rfl dDA_makePair_89 (fun v32 hv32 => ?_)
  obtain ⟨r30, rfl, kr30⟩ := (show ∃ r : Nat, v32 = .ref r ∧ T r = some 142 from hv32)
  refine lv_bipush (v := nI 96) hx hb dDA_makePair_92 (by decide) ?_
  refine lv_aload hx hb dDA_makePair_94 (lv_at hl 4 rfl) ?_
  refine lv_bipush (v := nI 32) hx hb dDA_makePair_96 (by decide) ?_
  refine lv_bipush (v := nI 32) hx hb dDA_makePair_98 (by decide) ?_
  refine nw_copyb hx hb (hml.trans hl.1.symm) hown (hts _ (wg_t kw_674)) (hts _ (wg_t kw_526)) (hts _ (wg_t kw_525)) (hts _ (wg_t kw_19)) hK hO hU kr30 (k0 := 142) rfl k_sk (k1 := psk) n_sk hP hD hS (sp := 96) (dp := 32) (n := 32) (by omega) (by omega) (by omega) (by decide) (Nat.le_of_ble_eq_true rfl) dDA_makePair_100 (fun s29 pl H locs es23 hO hP hD hS => ?_)
  replace hR := bnd_step hR es23
  have hF := frm_sC hF es23 (by unfold M_DA_makePair_1; omega)
  refine lv_aload_n hx hb dDA_makePair_103 rfl (lv_at hl 0 rfl) ?_
  refine lv_aload_n hx hb dDA_makePair_104 rfl (lv_at hl 1 rfl) ?_
  refine lv_aload hx hb dDA_makePair_105 (lv_at hl 4 rfl) ?_
  refine mp_v (cx := []) (wr := []) hP hD hS hA [] [] rfl rfl rfl (by decide) (va_runV (As := [.ref st, .ref sk]) (rest := []) F (N_DA_writeSmallVectors_1 l g _ T s29 pl hO hU h0 st sk psk k_h0 k_st k_sk n_sk) (cwV 2 hts (wg_app (wg_c kw_675 (wg_c kw_677 (wg_c ks_11 (wg_c kw_5 wg_n)))) kw_678) rfl rfl rfl (by decide +kernel) ⟨by decide, by decide⟩) (pn_W "LatticeKeys$Dsa" (en_ok g) (ci := 6) (kn := 39) (fl := [(3, 16), (3, 22), (3, 37), (3, 40), (3, 97), (3, 105), (3, 114), (3, 123), (3, 131), (3, 140), (3, 141), (3, 142), (3, 143), (3, 144), (3, 145), (3, 146), (3, 147)]) hK hO k_h0 rfl hP hD hS hA hE [] rfl rfl rfl) rfl rfl hl.1 rfl (lv_room (Nat.le_of_ble_eq_true rfl)) dDA_makePair_107 ⟨by omega, by omega⟩) (fun  u27 H locs hu27 hP hD hS => ?_)
  obtain ⟨s30, pl⟩ := u27
  obtain ⟨⟨eq27, hFc27, -⟩, hO⟩ := hu27
  have hO : okn g T s30 pl := hO
  have hP : va_P g.1 vcl ([] ++ pl) _ := hP
  have hD : va_D _ ([] ++ pl) := hD
  have hFc27 : frm (M_DA_writeSmallVectors_1 psk) s29 s30 := hFc27
  replace hR := bnd_step hR eq27
  have hF := frm_tr hF hFc27 (fun k hk => by unfold M_DA_writeSmallVectors_1 at hk; unfold M_DA_makePair_1; omega)
  refine W.widen (k := 0) (n := 0) (by omega) (by omega) ?_
  refine lv_aload_n hx hb dDA_makePair_110 rfl (lv_at hl 0 rfl) ?_
  refine nw_get (C := "LatticeKeys$Dsa") (TT := T_DA) (N := 17) hx hb hts (wg_ft i_DA) hown hK hO k_h0 (kn := 39) (ci := 6) (fl := [(3, 16), (3, 22), (3, 37), (3, 40), (3, 97), (3, 105), (3, 114), (3, 123), (3, 131), (3, 140), (3, 141), (3, 142), (3, 143), (3, 144), (3, 145), (3, 146), (3, 147)]) rfl hP rfl 2 (by decide) (hts _ (wg_t kw_167)) (fun _ h9 => h9) (cd := (3, 37)) rfl dDA_makePair_111 (fun v33 hv33 => ?_)
  obtain ⟨r31, rfl, kr31⟩ := (show ∃ r : Nat, v33 = .ref r ∧ T r = some 37 from hv33)
  refine lv_aload_n hx hb dDA_makePair_114 rfl (lv_at hl 1 rfl) ?_
  refine lv_aload_n hx hb dDA_makePair_115 rfl (lv_at hl 3 rfl) ?_
  refine lv_aload_n hx hb dDA_makePair_116 rfl (lv_at hl 0 rfl) ?_
  refine nw_get (C := "LatticeKeys$Dsa") (TT := T_DA) (N := 17) hx hb hts (wg_ft i_DA) hown hK hO k_h0 (kn := 39) (ci := 6) (fl := [(3, 16), (3, 22), (3, 37), (3, 40), (3, 97), (3, 105), (3, 114), (3, 123), (3, 131), (3, 140), (3, 141), (3, 142), (3, 143), (3, 144), (3, 145), (3, 146), (3, 147)]) rfl hP rfl 3 (by decide) (hts _ (wg_t kw_168)) (fun _ h9 => h9) (cd := (3, 40)) rfl dDA_makePair_117 (fun v34 hv34 => ?_)
  obtain ⟨r32, rfl, kr32⟩ := (show ∃ r : Nat, v34 = .ref r ∧ T r = some 40 from hv34)
  refine mp_v (cx := []) (wr := []) hP hD hS hA [] [] rfl rfl rfl (by decide) (va_runV (As := [.ref st, .ref pk, .ref r32]) (rest := []) F (N_SA_expandMatrix_1 l g _ T s30 pl hO hU r31 st pk r32 pp 1952 kr31 k_st k_pk n_pk kr32 (by omega) (by omega)) (cwV 3 hts (wg_app (wg_c kw_703 (wg_c kw_704 (wg_c kw_705 (wg_c kw_6 wg_n)))) kw_706) rfl rfl rfl (by decide +kernel) ⟨by decide, by decide⟩) (pn_W "LatticeKeys$DsaSampler" (en_ok g) (ci := 7) (kn := 37) (fl := [(3, 18), (3, 38)]) hK hO kr31 rfl hP hD hS hA hE [] rfl rfl rfl) rfl rfl hl.1 rfl (lv_room (Nat.le_of_ble_eq_true rfl)) dDA_makePair_120 ⟨by omega, by omega⟩) (fun  u28 H locs hu28 hP hD hS => ?_)
  obtain ⟨s31, pl⟩ := u28
  obtain ⟨⟨eq28, hFc28, -⟩, hO⟩ := hu28
  have hO : okn g T s31 pl := hO
  have hP : va_P g.1 vcl ([] ++ pl) _ := hP
  have hD : va_D _ ([] ++ pl) := hD
  have hFc28 : frm (M_SA_expandMatrix_1) s30 s31 := hFc28
  replace hR := bnd_step hR eq28
  have hF := frm_tr hF hFc28 (fun k hk => by unfold M_SA_expandMatrix_1 at hk; unfold M_DA_makePair_1; omega)
  refine W.widen (k := 0) (n := 0) (by omega) (by omega) ?_
  refine lv_iconst (v := nI 0) hx hb dDA_makePair_123 (by decide) ?_
  refine lv_istore (lv' := [(5, .int (nI 0)), (0, .ref h0), (1, .ref st), (2, .ref ch), (3, .ref pk), (4, .ref sk)]) hx hb dDA_makePair_124 hl (by decide) rfl (fun ls hl => ?_)
  have lp21 : ∀ (n21 : Nat) (i21 : Nat) (s32 : Sto) (pl : va_W) (ls : Array Slot) (H : Heap) (locs : List Loc), n21 + i21 = 5 → frm (M_DA_makePair_1 pp psk) s s32 → F_DA_makePair_1 pch n pp psk s = F_DA_makePair_1_L0 pp psk n21 i21 s32 → lv_has ls 7 [(5, .int (nI i21)), (0, .ref h0), (1, .ref st), (3, .ref pk), (4, .ref sk)] → okn g T s32 pl → va_P g.1 vcl ([] ++ pl) H → va_D A ([] ++ pl) → va_S A s0.heap H locs → W p l e ({ frames := 6, cells := 0, slots := 0, locals := 176 } : Room) s0 m args below meth c H locs 0 0 (MQ below (va_Qv (fun (u : (Sto) × va_W) => (u.1 = F_DA_makePair_1 pch n pp psk s ∧ frm (M_DA_makePair_1 pp psk) s u.1 ∧ True) ∧ okn g T u.1 u.2) (po g.1 vcl A (fun (u : (Sto) × va_W) => [] ++ u.2)) A) args s0 0 0 A) (F0 m 126 ls []) := by
    intro n21
    induction n21 with
    | zero =>
      intro i21 s32 pl ls H locs hm21 hF hR hl hO hP hD hS
      refine lv_iload hx hb dDA_makePair_126 (lv_at hl 0 rfl) ?_
      refine lv_aload_n hx hb dDA_makePair_128 rfl (lv_at hl 2 rfl) ?_
      refine nw_get (C := "LatticeKeys$DsaSet") (TT := T_DS) (N := 17) hx hb hts (wg_ft i_DS) hown hK hO k_st (kn := 10) (ci := 2) (fl := [(1, 6), (1, 5), (1, 4), (1, 4), (1, 49), (1, 48), (1, 20), (1, 524288), (1, 16), (1, 4), (1, 261888), (1, 55), (1, 196), (1, 1952), (1, 4032), (1, 3248), (1, 3309)]) rfl hP rfl 1 (by decide) (hts _ (wg_t kw_305)) (fun _ h9 => h9) (cd := (1, 5)) rfl dDA_makePair_129 (fun v35 hv35 => ?_)
      obtain rfl := (show v35 = .int (nI 5) from hv35)
      refine mi_ge (tgt := 155) hx hb dDA_makePair_132 (by decide) (by omega) (by omega) (fun h21 => ?_) (fun h21 => absurd h21 (by omega))
      refine lv_sipush (v := nI 128) hx hb dDA_makePair_155 (by decide) ?_
      refine lv_bipush (v := nI 32) hx hb dDA_makePair_158 (by decide) ?_
      refine lv_aload_n hx hb dDA_makePair_160 rfl (lv_at hl 2 rfl) ?_
      refine nw_get (C := "LatticeKeys$DsaSet") (TT := T_DS) (N := 17) hx hb hts (wg_ft i_DS) hown hK hO k_st (kn := 10) (ci := 2) (fl := [(1, 6), (1, 5), (1, 4), (1, 4), (1, 49), (1, 48), (1, 20), (1, 524288), (1, 16), (1, 4), (1, 261888), (1, 55), (1, 196), (1, 1952), (1, 4032), (1, 3248), (1, 3309)]) rfl hP rfl 3 (by decide) (hts _ (wg_t kw_310)) (fun _ h9 => h9) (cd := (1, 4)) rfl dDA_makePair_161 (fun v36 hv36 => ?_)
      obtain rfl := (show v36 = .int (nI 4) from hv36)
      refine mi_imul hx hb dDA_makePair_164 ?_
      refine mi_as (show nI (32 * 4) = nI 128 from rfl) ?_
      refine lv_aload_n hx hb dDA_makePair_165 rfl (lv_at hl 2 rfl) ?_
      refine nw_get (C := "LatticeKeys$DsaSet") (TT := T_DS) (N := 17) hx hb hts (wg_ft i_DS) hown hK hO k_st (kn := 10) (ci := 2) (fl := [(1, 6), (1, 5), (1, 4), (1, 4), (1, 49), (1, 48), (1, 20), (1, 524288), (1, 16), (1, 4), (1, 261888), (1, 55), (1, 196), (1, 1952), (1, 4032), (1, 3248), (1, 3309)]) rfl hP rfl 0 (by decide) (hts _ (wg_t kw_302)) (fun _ h9 => h9) (cd := (1, 6)) rfl dDA_makePair_166 (fun v37 hv37 => ?_)
      obtain rfl := (show v37 = .int (nI 6) from hv37)
      refine lv_aload_n hx hb dDA_makePair_169 rfl (lv_at hl 2 rfl) ?_
      refine nw_get (C := "LatticeKeys$DsaSet") (TT := T_DS) (N := 17) hx hb hts (wg_ft i_DS) hown hK hO k_st (kn := 10) (ci := 2) (fl := [(1, 6), (1, 5), (1, 4), (1, 4), (1, 49), (1, 48), (1, 20), (1, 524288), (1, 16), (1, 4), (1, 261888), (1, 55), (1, 196), (1, 1952), (1, 4032), (1, 3248), (1, 3309)]) rfl hP rfl 1 (by decide) (hts _ (wg_t kw_305)) (fun _ h9 => h9) (cd := (1, 5)) rfl dDA_makePair_170 (fun v38 hv38 => ?_)
      obtain rfl := (show v38 = .int (nI 5) from hv38)
      refine mi_iadd hx hb dDA_makePair_173 ?_
      refine mi_as (show nI (6 + 5) = nI 11 from rfl) ?_
      refine mi_imul hx hb dDA_makePair_174 ?_
      refine mi_as (show nI (128 * 11) = nI 1408 from rfl) ?_
      refine mi_iadd hx hb dDA_makePair_175 ?_
      refine mi_as (show nI (128 + 1408) = nI 1536 from rfl) ?_
      refine lv_istore (lv' := [(5, .int (nI 1536)), (0, .ref h0), (1, .ref st), (3, .ref pk), (4, .ref sk)]) hx hb dDA_makePair_176 hl (by decide) rfl (fun ls hl => ?_)
      refine lv_iconst (v := nI 0) hx hb dDA_makePair_178 (by decide) ?_
      refine lv_istore (lv' := [(6, .int (nI 0)), (5, .int (nI 1536)), (0, .ref h0), (1, .ref st), (3, .ref pk), (4, .ref sk)]) hx hb dDA_makePair_179 hl (by decide) rfl (fun ls hl => ?_)
      have lp22 : ∀ (n22 : Nat) (i22 : Nat) (s33 : Sto) (pl : va_W) (ls : Array Slot) (H : Heap) (locs : List Loc), n22 + i22 = 6 → frm (M_DA_makePair_1 pp psk) s s33 → F_DA_makePair_1 pch n pp psk s = F_DA_makePair_1_L1 pp psk n22 i22 s33 → lv_has ls 7 [(6, .int (nI i22)), (5, .int (nI 1536)), (0, .ref h0), (1, .ref st), (3, .ref pk), (4, .ref sk)] → okn g T s33 pl → va_P g.1 vcl ([] ++ pl) H → va_D A ([] ++ pl) → va_S A s0.heap H locs → W p l e ({ frames := 6, cells := 0, slots := 0, locals := 176 } : Room) s0 m args below meth c H locs 0 0 (MQ below (va_Qv (fun (u : (Sto) × va_W) => (u.1 = F_DA_makePair_1 pch n pp psk s ∧ frm (M_DA_makePair_1 pp psk) s u.1 ∧ True) ∧ okn g T u.1 u.2) (po g.1 vcl A (fun (u : (Sto) × va_W) => [] ++ u.2)) A) args s0 0 0 A) (F0 m 181 ls []) := by
        intro n22
        induction n22 with
        | zero =>
          intro i22 s33 pl ls H locs hm22 hF hR hl hO hP hD hS
          refine lv_iload hx hb dDA_makePair_181 (lv_at hl 0 rfl) ?_
          refine lv_aload_n hx hb dDA_makePair_183 rfl (lv_at hl 3 rfl) ?_
          refine nw_get (C := "LatticeKeys$DsaSet") (TT := T_DS) (N := 17) hx hb hts (wg_ft i_DS) hown hK hO k_st (kn := 10) (ci := 2) (fl := [(1, 6), (1, 5), (1, 4), (1, 4), (1, 49), (1, 48), (1, 20), (1, 524288), (1, 16), (1, 4), (1, 261888), (1, 55), (1, 196), (1, 1952), (1, 4032), (1, 3248), (1, 3309)]) rfl hP rfl 0 (by decide) (hts _ (wg_t kw_302)) (fun _ h9 => h9) (cd := (1, 6)) rfl dDA_makePair_184 (fun v39 hv39 => ?_)
          obtain rfl := (show v39 = .int (nI 6) from hv39)
          refine mi_ge (tgt := 295) hx hb dDA_makePair_187 (by decide) (by omega) (by omega) (fun h22 => ?_) (fun h22 => absurd h22 (by omega))
          refine lv_aload_n hx hb dDA_makePair_295 rfl (lv_at hl 2 rfl) ?_
          refine lv_aload_n hx hb dDA_makePair_296 rfl (lv_at hl 4 rfl) ?_
          refine mp_v (cx := []) (wr := []) hP hD hS hA [] [] rfl rfl rfl (by decide) (va_runV (As := [.ref pk]) (rest := []) F (N_DA_digestOf l g _ T s33 pl hO hU h0 pk pp 1952 k_h0 k_pk n_pk (by omega)) (cwV 1 hts (wg_app (wg_c kw_736 (wg_c kw_738 (wg_c ks_18 (wg_c kw_5 wg_n)))) kw_739) rfl rfl rfl (by decide +kernel) ⟨by decide, by decide⟩) (pn_W "LatticeKeys$Dsa" (en_ok g) (ci := 6) (kn := 39) (fl := [(3, 16), (3, 22), (3, 37), (3, 40), (3, 97), (3, 105), (3, 114), (3, 123), (3, 131), (3, 140), (3, 141), (3, 142), (3, 143), (3, 144), (3, 145), (3, 146), (3, 147)]) hK hO k_h0 rfl hP hD hS hA hE [] rfl rfl rfl) rfl rfl hl.1 rfl (lv_room (Nat.le_of_ble_eq_true rfl)) dDA_makePair_297 ⟨by omega, by omega⟩) (fun  u29 H locs hu29 hP hD hS => ?_)
          obtain ⟨s34, pl⟩ := u29
          obtain ⟨⟨eq29, hFc29, -⟩, hO⟩ := hu29
          have hO : okn g T s34 pl := hO
          have hP : va_P g.1 vcl ([] ++ pl) _ := hP
          have hD : va_D _ ([] ++ pl) := hD
          have hFc29 : frm (M_DA_digestOf) s33 s34 := hFc29
          replace hR := bnd_step hR eq29
          have hF := frm_tr hF hFc29 (fun k hk => by unfold M_DA_digestOf at hk; unfold M_DA_makePair_1; omega)
          refine W.widen (k := 0) (n := 0) (by omega) (by omega) ?_
          refine lv_aload_n hx hb dDA_makePair_300 rfl (lv_at hl 2 rfl) ?_
          refine nw_get (C := "LatticeKeys$Dsa") (TT := T_DA) (N := 17) hx hb hts (wg_ft i_DA) hown hK hO k_h0 (kn := 39) (ci := 6) (fl := [(3, 16), (3, 22), (3, 37), (3, 40), (3, 97), (3, 105), (3, 114), (3, 123), (3, 131), (3, 140), (3, 141), (3, 142), (3, 143), (3, 144), (3, 145), (3, 146), (3, 147)]) rfl hP rfl 12 (by decide) (hts _ (wg_t kw_177)) (fun _ h9 => h9) (cd := (3, 143)) rfl dDA_makePair_301 (fun v40 hv40 => ?_)
          obtain ⟨r33, rfl, kr33⟩ := (show ∃ r : Nat, v40 = .ref r ∧ T r = some 143 from hv40)
          refine lv_iconst (v := nI 0) hx hb dDA_makePair_304 (by decide) ?_
          refine lv_aload hx hb dDA_makePair_305 (lv_at hl 5 rfl) ?_
          refine lv_bipush (v := nI 64) hx hb dDA_makePair_307 (by decide) ?_
          refine lv_bipush (v := nI 64) hx hb dDA_makePair_309 (by decide) ?_
          refine nw_copyb hx hb (hml.trans hl.1.symm) hown (hts _ (wg_t kw_674)) (hts _ (wg_t kw_526)) (hts _ (wg_t kw_525)) (hts _ (wg_t kw_19)) hK hO hU kr33 (k0 := 143) rfl k_sk (k1 := psk) n_sk hP hD hS (sp := 0) (dp := 64) (n := 64) (by omega) (by omega) (by omega) (by decide) (Nat.le_of_ble_eq_true rfl) dDA_makePair_311 (fun s35 pl H locs es24 hO hP hD hS => ?_)
          replace hR := bnd_step hR es24
          have hF := frm_sC hF es24 (by unfold M_DA_makePair_1; omega)
          exact mp_vret hx hb hr hlk hP hD hS (s35, pl) ⟨⟨hR.symm, hF, trivial⟩, hO⟩ [] rfl rfl rfl (by omega) (by omega) dDA_makePair_314
        | succ n22 ih22 =>
          intro i22 s33 pl ls H locs hm22 hF hR hl hO hP hD hS
          refine lv_iload hx hb dDA_makePair_181 (lv_at hl 0 rfl) ?_
          refine lv_aload_n hx hb dDA_makePair_183 rfl (lv_at hl 3 rfl) ?_
          refine nw_get (C := "LatticeKeys$DsaSet") (TT := T_DS) (N := 17) hx hb hts (wg_ft i_DS) hown hK hO k_st (kn := 10) (ci := 2) (fl := [(1, 6), (1, 5), (1, 4), (1, 4), (1, 49), (1, 48), (1, 20), (1, 524288), (1, 16), (1, 4), (1, 261888), (1, 55), (1, 196), (1, 1952), (1, 4032), (1, 3248), (1, 3309)]) rfl hP rfl 0 (by decide) (hts _ (wg_t kw_302)) (fun _ h9 => h9) (cd := (1, 6)) rfl dDA_makePair_184 (fun v41 hv41 => ?_)
          obtain rfl := (show v41 = .int (nI 6) from hv41)
          refine mi_ge (tgt := 295) hx hb dDA_makePair_187 (by decide) (by omega) (by omega) (fun h23 => absurd h23 (by omega)) (fun h23 => ?_)
          refine lv_aload_n hx hb dDA_makePair_190 rfl (lv_at hl 2 rfl) ?_
          refine lv_aload_n hx hb dDA_makePair_191 rfl (lv_at hl 3 rfl) ?_
          refine lv_iload hx hb dDA_makePair_192 (lv_at hl 0 rfl) ?_
          refine lv_aload_n hx hb dDA_makePair_194 rfl (lv_at hl 2 rfl) ?_
          refine nw_get (C := "LatticeKeys$Dsa") (TT := T_DA) (N := 17) hx hb hts (wg_ft i_DA) hown hK hO k_h0 (kn := 39) (ci := 6) (fl := [(3, 16), (3, 22), (3, 37), (3, 40), (3, 97), (3, 105), (3, 114), (3, 123), (3, 131), (3, 140), (3, 141), (3, 142), (3, 143), (3, 144), (3, 145), (3, 146), (3, 147)]) rfl hP rfl 4 (by decide) (hts _ (wg_t kw_169)) (fun _ h9 => h9) (cd := (3, 97)) rfl dDA_makePair_195 (fun v42 hv42 => ?_)
          obtain ⟨r34, rfl, kr34⟩ := (show ∃ r : Nat, v42 = .ref r ∧ T r = some 97 from hv42)
          refine mp_v (cx := []) (wr := []) hP hD hS hA [] [] rfl rfl rfl (by decide) (va_runV (As := [.ref st, .int (nI i22), .ref r34]) (rest := []) F (N_DA_multiplyRow_secret_1 l g _ T s33 pl hO hU h0 st r34 i22 k_h0 k_st kr34 (by omega)) (cwV 3 hts (wg_app (wg_c kw_712 (wg_c kw_714 (wg_c ks_15 (wg_c kw_5 wg_n)))) kw_715) rfl rfl rfl (by decide +kernel) ⟨by decide, by decide⟩) (pn_W "LatticeKeys$Dsa" (en_ok g) (ci := 6) (kn := 39) (fl := [(3, 16), (3, 22), (3, 37), (3, 40), (3, 97), (3, 105), (3, 114), (3, 123), (3, 131), (3, 140), (3, 141), (3, 142), (3, 143), (3, 144), (3, 145), (3, 146), (3, 147)]) hK hO k_h0 rfl hP hD hS hA hE [] rfl rfl rfl) rfl rfl hl.1 rfl (lv_room (Nat.le_of_ble_eq_true rfl)) dDA_makePair_198 ⟨by omega, by omega⟩) (fun  u30 H locs hu30 hP hD hS => ?_)
          obtain ⟨s36, pl⟩ := u30
          obtain ⟨⟨eq30, hFc30, -⟩, hO⟩ := hu30
          have hO : okn g T s36 pl := hO
          have hP : va_P g.1 vcl ([] ++ pl) _ := hP
          have hD : va_D _ ([] ++ pl) := hD
          have hFc30 : frm (M_DA_multiplyRow_secret_1) s33 s36 := hFc30
          replace hR := bnd_step hR eq30
          have hF := frm_tr hF hFc30 (fun k hk => by unfold M_DA_multiplyRow_secret_1 at hk; unfold M_DA_makePair_1; omega)
          refine W.widen (k := 0) (n := 0) (by omega) (by omega) ?_
          refine lv_aload_n hx hb dDA_makePair_201 rfl (lv_at hl 2 rfl) ?_
          refine nw_get (C := "LatticeKeys$Dsa") (TT := T_DA) (N := 17) hx hb hts (wg_ft i_DA) hown hK hO k_h0 (kn := 39) (ci := 6) (fl := [(3, 16), (3, 22), (3, 37), (3, 40), (3, 97), (3, 105), (3, 114), (3, 123), (3, 131), (3, 140), (3, 141), (3, 142), (3, 143), (3, 144), (3, 145), (3, 146), (3, 147)]) rfl hP rfl 1 (by decide) (hts _ (wg_t kw_166)) (fun _ h9 => h9) (cd := (3, 22)) rfl dDA_makePair_202 (fun v43 hv43 => ?_)
          obtain ⟨r35, rfl, kr35⟩ := (show ∃ r : Nat, v43 = .ref r ∧ T r = some 22 from hv43)
          refine lv_aload_n hx hb dDA_makePair_205 rfl (lv_at hl 2 rfl) ?_
          refine nw_get (C := "LatticeKeys$Dsa") (TT := T_DA) (N := 17) hx hb hts (wg_ft i_DA) hown hK hO k_h0 (kn := 39) (ci := 6) (fl := [(3, 16), (3, 22), (3, 37), (3, 40), (3, 97), (3, 105), (3, 114), (3, 123), (3, 131), (3, 140), (3, 141), (3, 142), (3, 143), (3, 144), (3, 145), (3, 146), (3, 147)]) rfl hP rfl 8 (by decide) (hts _ (wg_t kw_173)) (fun _ h9 => h9) (cd := (3, 131)) rfl dDA_makePair_206 (fun v44 hv44 => ?_)
          obtain ⟨r36, rfl, kr36⟩ := (show ∃ r : Nat, v44 = .ref r ∧ T r = some 131 from hv44)
          refine lv_iload hx hb dDA_makePair_209 (lv_at hl 0 rfl) ?_
          refine nw_aald3 hx hb hK hO kr36 (k := 131) (b := 132) rfl hP (by omega) (by omega) dDA_makePair_211 (fun r37 kr37 => ?_)
          have hn21 : nsp (132 + i22) = (0, 256, []) := rows_ok 132 8 (by decide) _ (by omega)
          refine mp_v (cx := []) (wr := []) hP hD hS hA [] [] rfl rfl rfl (by decide) (va_runV (As := [.ref r37]) (rest := []) F (N_RG_restore_8 l g _ T s36 pl hO hU r35 r37 (132 + i22) kr35 kr37 hn21) (cwV 1 hts (wg_app (wg_c kw_720 (wg_c kw_721 (wg_c kw_722 (wg_c kw_4 wg_n)))) kw_723) rfl rfl rfl (by decide +kernel) ⟨by decide, by decide⟩) (pn_W "LatticeKeys$Ring" (en_ok g) (ci := 4) (kn := 22) (fl := [(1, 8380417), (1, 8), (1, 8347681), (3, 23)]) hK hO kr35 rfl hP hD hS hA hE [] rfl rfl rfl) rfl rfl hl.1 rfl (lv_room (Nat.le_of_ble_eq_true rfl)) dDA_makePair_212 ⟨by omega, by omega⟩) (fun  u31 H locs hu31 hP hD hS => ?_)
          obtain ⟨s37, pl⟩ := u31
          obtain ⟨⟨eq31, hFc31, -⟩, hO⟩ := hu31
          have hO : okn g T s37 pl := hO
          have hP : va_P g.1 vcl ([] ++ pl) _ := hP
          have hD : va_D _ ([] ++ pl) := hD
          have hFc31 : frm (M_RG_restore_8 (132 + i22)) s36 s37 := hFc31
          replace hR := bnd_step hR eq31
          have hF := frm_tr hF hFc31 (fun k hk => by unfold M_RG_restore_8 at hk; unfold M_DA_makePair_1; omega)
          refine W.widen (k := 0) (n := 0) (by omega) (by omega) ?_
          refine lv_aload_n hx hb dDA_makePair_215 rfl (lv_at hl 2 rfl) ?_
          refine nw_get (C := "LatticeKeys$Dsa") (TT := T_DA) (N := 17) hx hb hts (wg_ft i_DA) hown hK hO k_h0 (kn := 39) (ci := 6) (fl := [(3, 16), (3, 22), (3, 37), (3, 40), (3, 97), (3, 105), (3, 114), (3, 123), (3, 131), (3, 140), (3, 141), (3, 142), (3, 143), (3, 144), (3, 145), (3, 146), (3, 147)]) rfl hP rfl 1 (by decide) (hts _ (wg_t kw_166)) (fun _ h9 => h9) (cd := (3, 22)) rfl dDA_makePair_216 (fun v45 hv45 => ?_)
          obtain ⟨r38, rfl, kr38⟩ := (show ∃ r : Nat, v45 = .ref r ∧ T r = some 22 from hv45)
          refine lv_aload_n hx hb dDA_makePair_219 rfl (lv_at hl 2 rfl) ?_
          refine nw_get (C := "LatticeKeys$Dsa") (TT := T_DA) (N := 17) hx hb hts (wg_ft i_DA) hown hK hO k_h0 (kn := 39) (ci := 6) (fl := [(3, 16), (3, 22), (3, 37), (3, 40), (3, 97), (3, 105), (3, 114), (3, 123), (3, 131), (3, 140), (3, 141), (3, 142), (3, 143), (3, 144), (3, 145), (3, 146), (3, 147)]) rfl hP rfl 8 (by decide) (hts _ (wg_t kw_173)) (fun _ h9 => h9) (cd := (3, 131)) rfl dDA_makePair_220 (fun v46 hv46 => ?_)
          obtain ⟨r39, rfl, kr39⟩ := (show ∃ r : Nat, v46 = .ref r ∧ T r = some 131 from hv46)
          refine lv_iload hx hb dDA_makePair_223 (lv_at hl 0 rfl) ?_
          refine nw_aald3 hx hb hK hO kr39 (k := 131) (b := 132) rfl hP (by omega) (by omega) dDA_makePair_225 (fun r40 kr40 => ?_)
          have hn22 : nsp (132 + i22) = (0, 256, []) := rows_ok 132 8 (by decide) _ (by omega)
          refine lv_aload_n hx hb dDA_makePair_226 rfl (lv_at hl 2 rfl) ?_
          refine nw_get (C := "LatticeKeys$Dsa") (TT := T_DA) (N := 17) hx hb hts (wg_ft i_DA) hown hK hO k_h0 (kn := 39) (ci := 6) (fl := [(3, 16), (3, 22), (3, 37), (3, 40), (3, 97), (3, 105), (3, 114), (3, 123), (3, 131), (3, 140), (3, 141), (3, 142), (3, 143), (3, 144), (3, 145), (3, 146), (3, 147)]) rfl hP rfl 5 (by decide) (hts _ (wg_t kw_170)) (fun _ h9 => h9) (cd := (3, 105)) rfl dDA_makePair_227 (fun v47 hv47 => ?_)
          obtain ⟨r41, rfl, kr41⟩ := (show ∃ r : Nat, v47 = .ref r ∧ T r = some 105 from hv47)
          refine lv_iload hx hb dDA_makePair_230 (lv_at hl 0 rfl) ?_
          refine nw_aald3 hx hb hK hO kr41 (k := 105) (b := 106) rfl hP (by omega) (by omega) dDA_makePair_232 (fun r42 kr42 => ?_)
          have hn23 : nsp (106 + i22) = (0, 256, []) := rows_ok 106 8 (by decide) _ (by omega)
          refine mp_v (cx := []) (wr := []) hP hD hS hA [] [] rfl rfl rfl (by decide) (va_runV (As := [.ref r40, .ref r42]) (rest := []) F (N_RG_add_8 l g _ T s37 pl hO hU r38 r40 r42 (132 + i22) (106 + i22) kr38 kr40 hn22 kr42 hn23) (cwV 2 hts (wg_app (wg_c kw_728 (wg_c kw_729 (wg_c kw_730 (wg_c kw_4 wg_n)))) kw_731) rfl rfl rfl (by decide +kernel) ⟨by decide, by decide⟩) (pn_W "LatticeKeys$Ring" (en_ok g) (ci := 4) (kn := 22) (fl := [(1, 8380417), (1, 8), (1, 8347681), (3, 23)]) hK hO kr38 rfl hP hD hS hA hE [] rfl rfl rfl) rfl rfl hl.1 rfl (lv_room (Nat.le_of_ble_eq_true rfl)) dDA_makePair_233 ⟨by omega, by omega⟩) (fun  u32 H locs hu32 hP hD hS => ?_)
          obtain ⟨s38, pl⟩ := u32
          obtain ⟨⟨eq32, hFc32, -⟩, hO⟩ := hu32
          have hO : okn g T s38 pl := hO
          have hP : va_P g.1 vcl ([] ++ pl) _ := hP
          have hD : va_D _ ([] ++ pl) := hD
          have hFc32 : frm (M_RG_add_8 (132 + i22)) s37 s38 := hFc32
          replace hR := bnd_step hR eq32
          have hF := frm_tr hF hFc32 (fun k hk => by unfold M_RG_add_8 at hk; unfold M_DA_makePair_1; omega)
          refine W.widen (k := 0) (n := 0) (by omega) (by omega) ?_
          refine lv_aload_n hx hb dDA_makePair_236 rfl (lv_at hl 2 rfl) ?_
          refine lv_aload_n hx hb dDA_makePair_237 rfl (lv_at hl 2 rfl) ?_
          refine nw_get (C := "LatticeKeys$Dsa") (TT := T_DA) (N := 17) hx hb hts (wg_ft i_DA) hown hK hO k_h0 (kn := 39) (ci := 6) (fl := [(3, 16), (3, 22), (3, 37), (3, 40), (3, 97), (3, 105), (3, 114), (3, 123), (3, 131), (3, 140), (3, 141), (3, 142), (3, 143), (3, 144), (3, 145), (3, 146), (3, 147)]) rfl hP rfl 8 (by decide) (hts _ (wg_t kw_173)) (fun _ h9 => h9) (cd := (3, 131)) rfl dDA_makePair_238 (fun v48 hv48 => ?_)
          obtain ⟨r43, rfl, kr43⟩ := (show ∃ r : Nat, v48 = .ref r ∧ T r = some 131 from hv48)
          refine lv_iload hx hb dDA_makePair_241 (lv_at hl 0 rfl) ?_
          refine nw_aald3 hx hb hK hO kr43 (k := 131) (b := 132) rfl hP (by omega) (by omega) dDA_makePair_243 (fun r44 kr44 => ?_)
          have hn24 : nsp (132 + i22) = (0, 256, []) := rows_ok 132 8 (by decide) _ (by omega)
          refine mp_v (cx := []) (wr := []) hP hD hS hA [] [] rfl rfl rfl (by decide) (va_runV (As := [.ref r44]) (rest := []) F (N_DA_splitRow l g _ T s38 pl hO hU h0 r44 (132 + i22) k_h0 kr44 hn24) (cwV 1 hts (wg_app (wg_c kw_732 (wg_c kw_734 (wg_c ks_17 (wg_c kw_5 wg_n)))) kw_735) rfl rfl rfl (by decide +kernel) ⟨by decide, by decide⟩) (pn_W "LatticeKeys$Dsa" (en_ok g) (ci := 6) (kn := 39) (fl := [(3, 16), (3, 22), (3, 37), (3, 40), (3, 97), (3, 105), (3, 114), (3, 123), (3, 131), (3, 140), (3, 141), (3, 142), (3, 143), (3, 144), (3, 145), (3, 146), (3, 147)]) hK hO k_h0 rfl hP hD hS hA hE [] rfl rfl rfl) rfl rfl hl.1 rfl (lv_room (Nat.le_of_ble_eq_true rfl)) dDA_makePair_244 ⟨by omega, by omega⟩) (fun  u33 H locs hu33 hP hD hS => ?_)
          obtain ⟨s39, pl⟩ := u33
          obtain ⟨⟨eq33, hFc33, -⟩, hO⟩ := hu33
          have hO : okn g T s39 pl := hO
          have hP : va_P g.1 vcl ([] ++ pl) _ := hP
          have hD : va_D _ ([] ++ pl) := hD
          have hFc33 : frm (M_DA_splitRow (132 + i22)) s38 s39 := hFc33
          replace hR := bnd_step hR eq33
          have hF := frm_tr hF hFc33 (fun k hk => by unfold M_DA_splitRow at hk; unfold M_DA_makePair_1; omega)
          refine W.widen (k := 0) (n := 0) (by omega) (by omega) ?_
          refine lv_aload_n hx hb dDA_makePair_247 rfl (lv_at hl 2 rfl) ?_
          refine nw_get (C := "LatticeKeys$Dsa") (TT := T_DA) (N := 17) hx hb hts (wg_ft i_DA) hown hK hO k_h0 (kn := 39) (ci := 6) (fl := [(3, 16), (3, 22), (3, 37), (3, 40), (3, 97), (3, 105), (3, 114), (3, 123), (3, 131), (3, 140), (3, 141), (3, 142), (3, 143), (3, 144), (3, 145), (3, 146), (3, 147)]) rfl hP rfl 8 (by decide) (hts _ (wg_t kw_173)) (fun _ h9 => h9) (cd := (3, 131)) rfl dDA_makePair_248 (fun v49 hv49 => ?_)
          obtain ⟨r45, rfl, kr45⟩ := (show ∃ r : Nat, v49 = .ref r ∧ T r = some 131 from hv49)
          refine lv_iload hx hb dDA_makePair_251 (lv_at hl 0 rfl) ?_
          refine nw_aald3 hx hb hK hO kr45 (k := 131) (b := 132) rfl hP (by omega) (by omega) dDA_makePair_253 (fun r46 kr46 => ?_)
          have hn25 : nsp (132 + i22) = (0, 256, []) := rows_ok 132 8 (by decide) _ (by omega)
          refine lv_bipush (v := nI 10) hx hb dDA_makePair_254 (by decide) ?_
          refine lv_aload_n hx hb dDA_makePair_256 rfl (lv_at hl 4 rfl) ?_
          refine lv_bipush (v := nI 32) hx hb dDA_makePair_257 (by decide) ?_
          refine lv_sipush (v := nI 320) hx hb dDA_makePair_259 (by decide) ?_
          refine lv_iload hx hb dDA_makePair_262 (lv_at hl 0 rfl) ?_
          refine mi_imul hx hb dDA_makePair_264 ?_
          refine mi_iadd hx hb dDA_makePair_265 ?_
          refine mp_v (cx := []) (wr := []) hP hD hS hA [] [] rfl rfl rfl (by decide) (va_runS (As := [.ref r46, .int (nI 10), .ref pk, .int (nI (32 + (320 * i22)))]) (rest := []) F (N_BT_pack l g _ T s39 pl hO hU r46 pk (132 + i22) 10 pp 1952 (32 + (320 * i22)) kr46 hn25 k_pk n_pk (by omega) (by omega) (by omega)) (va_cwS 4 hts (wg_app (wg_c kw_702 (wg_c kw_645 (wg_c kw_22 wg_n))) kw_646) rfl rfl rfl (by decide +kernel) ⟨by decide, by decide⟩) (pp_S (en_ok g) hP hD hS hA hE [] rfl rfl) rfl rfl hl.1 rfl (lv_room (Nat.le_of_ble_eq_true rfl)) dDA_makePair_266 ⟨by omega, by omega⟩) (fun  u34 H locs hu34 hP hD hS => ?_)
          obtain ⟨s40, pl⟩ := u34
          obtain ⟨⟨eq34, hFc34, -⟩, hO⟩ := hu34
          have hO : okn g T s40 pl := hO
          have hP : va_P g.1 vcl ([] ++ pl) _ := hP
          have hD : va_D _ ([] ++ pl) := hD
          have hFc34 : frm (M_BT_pack pp) s39 s40 := hFc34
          replace hR := bnd_step hR eq34
          have hF := frm_tr hF hFc34 (fun k hk => by unfold M_BT_pack at hk; unfold M_DA_makePair_1; omega)
          refine W.widen (k := 0) (n := 0) (by omega) (by omega) ?_
          refine lv_aload_n hx hb dDA_makePair_269 rfl (lv_at hl 2 rfl) ?_
          refine nw_get (C := "LatticeKeys$Dsa") (TT := T_DA) (N := 17) hx hb hts (wg_ft i_DA) hown hK hO k_h0 (kn := 39) (ci := 6) (fl := [(3, 16), (3, 22), (3, 37), (3, 40), (3, 97), (3, 105), (3, 114), (3, 123), (3, 131), (3, 140), (3, 141), (3, 142), (3, 143), (3, 144), (3, 145), (3, 146), (3, 147)]) rfl hP rfl 10 (by decide) (hts _ (wg_t kw_175)) (fun _ h9 => h9) (cd := (3, 141)) rfl dDA_makePair_270 (fun v50 hv50 => ?_)
          obtain ⟨r47, rfl, kr47⟩ := (show ∃ r : Nat, v50 = .ref r ∧ T r = some 141 from hv50)
          refine lv_bipush (v := nI 13) hx hb dDA_makePair_273 (by decide) ?_
          refine lv_aload hx hb dDA_makePair_275 (lv_at hl 5 rfl) ?_
          refine lv_iload hx hb dDA_makePair_277 (lv_at hl 1 rfl) ?_
          refine lv_sipush (v := nI 416) hx hb dDA_makePair_279 (by decide) ?_
          refine lv_iload hx hb dDA_makePair_282 (lv_at hl 0 rfl) ?_
          refine mi_imul hx hb dDA_makePair_284 ?_
          refine mi_iadd hx hb dDA_makePair_285 ?_
          refine mp_v (cx := []) (wr := []) hP hD hS hA [] [] rfl rfl rfl (by decide) (va_runS (As := [.ref r47, .int (nI 13), .ref sk, .int (nI (1536 + (416 * i22)))]) (rest := []) F (N_BT_pack l g _ T s40 pl hO hU r47 sk 141 13 psk 4032 (1536 + (416 * i22)) kr47 rfl k_sk n_sk (by omega) (by omega) (by omega)) (va_cwS 4 hts (wg_app (wg_c kw_702 (wg_c kw_645 (wg_c kw_22 wg_n))) kw_646) rfl rfl rfl (by decide +kernel) ⟨by decide, by decide⟩) (pp_S (en_ok g) hP hD hS hA hE [] rfl rfl) rfl rfl hl.1 rfl (lv_room (Nat.le_of_ble_eq_true rfl)) dDA_makePair_286 ⟨by omega, by omega⟩) (fun  u35 H locs hu35 hP hD hS => ?_)
          obtain ⟨s41, pl⟩ := u35
          obtain ⟨⟨eq35, hFc35, -⟩, hO⟩ := hu35
          have hO : okn g T s41 pl := hO
          have hP : va_P g.1 vcl ([] ++ pl) _ := hP
          have hD : va_D _ ([] ++ pl) := hD
          have hFc35 : frm (M_BT_pack psk) s40 s41 := hFc35
          replace hR := bnd_step hR eq35
          have hF := frm_tr hF hFc35 (fun k hk => by unfold M_BT_pack at hk; unfold M_DA_makePair_1; omega)
          refine W.widen (k := 0) (n := 0) (by omega) (by omega) ?_
          refine mi_iinc (k := 0) (x := i22) (d := 1) (y := i22 + 1) (lv' := [(6, .int (nI (i22 + 1))), (5, .int (nI 1536)), (0, .ref h0), (1, .ref st), (3, .ref pk), (4, .ref sk)]) hx hb dDA_makePair_289 hl rfl (by decide) rfl (by decide) rfl (fun ls hl => ?_)
          refine lv_goto (tgt := 181) hx hb dDA_makePair_292 (by decide) ?_
          exact ih22 (i22 + 1) s41 pl ls H locs (by omega) hF hR (lv_sub hl [0, 1, 2, 3, 4, 5] rfl) hO hP hD hS
      exact lp22 6 0 s32 pl ls _ _ (by omega) hF hR (lv_sub hl [0, 1, 2, 3, 4, 5] rfl) hO hP hD hS
    | succ n21 ih21 =>
      intro i21 s32 pl ls H locs hm21 hF hR hl hO hP hD hS
      refine lv_iload hx hb dDA_makePair_126 (lv_at hl 0 rfl) ?_
      refine lv_aload_n hx hb dDA_makePair_128 rfl (lv_at hl 2 rfl) ?_
      refine nw_get (C := "LatticeKeys$DsaSet") (TT := T_DS) (N := 17) hx hb hts (wg_ft i_DS) hown hK hO k_st (kn := 10) (ci := 2) (fl := [(1, 6), (1, 5), (1, 4), (1, 4), (1, 49), (1, 48), (1, 20), (1, 524288), (1, 16), (1, 4), (1, 261888), (1, 55), (1, 196), (1, 1952), (1, 4032), (1, 3248), (1, 3309)]) rfl hP rfl 1 (by decide) (hts _ (wg_t kw_305)) (fun _ h9 => h9) (cd := (1, 5)) rfl dDA_makePair_129 (fun v51 hv51 => ?_)
      obtain rfl := (show v51 = .int (nI 5) from hv51)
      refine mi_ge (tgt := 155) hx hb dDA_makePair_132 (by decide) (by omega) (by omega) (fun h24 => absurd h24 (by omega)) (fun h24 => ?_)
      refine lv_aload_n hx hb dDA_makePair_135 rfl (lv_at hl 1 rfl) ?_
      refine nw_get (C := "LatticeKeys$Dsa") (TT := T_DA) (N := 17) hx hb hts (wg_ft i_DA) hown hK hO k_h0 (kn := 39) (ci := 6) (fl := [(3, 16), (3, 22), (3, 37), (3, 40), (3, 97), (3, 105), (3, 114), (3, 123), (3, 131), (3, 140), (3, 141), (3, 142), (3, 143), (3, 144), (3, 145), (3, 146), (3, 147)]) rfl hP rfl 1 (by decide) (hts _ (wg_t kw_166)) (fun _ h9 => h9) (cd := (3, 22)) rfl dDA_makePair_136 (fun v52 hv52 => ?_)
      obtain ⟨r48, rfl, kr48⟩ := (show ∃ r : Nat, v52 = .ref r ∧ T r = some 22 from hv52)
      refine lv_aload_n hx hb dDA_makePair_139 rfl (lv_at hl 1 rfl) ?_
      refine nw_get (C := "LatticeKeys$Dsa") (TT := T_DA) (N := 17) hx hb hts (wg_ft i_DA) hown hK hO k_h0 (kn := 39) (ci := 6) (fl := [(3, 16), (3, 22), (3, 37), (3, 40), (3, 97), (3, 105), (3, 114), (3, 123), (3, 131), (3, 140), (3, 141), (3, 142), (3, 143), (3, 144), (3, 145), (3, 146), (3, 147)]) rfl hP rfl 4 (by decide) (hts _ (wg_t kw_169)) (fun _ h9 => h9) (cd := (3, 97)) rfl dDA_makePair_140 (fun v53 hv53 => ?_)
      obtain ⟨r49, rfl, kr49⟩ := (show ∃ r : Nat, v53 = .ref r ∧ T r = some 97 from hv53)
      refine lv_iload hx hb dDA_makePair_143 (lv_at hl 0 rfl) ?_
      refine nw_aald3 hx hb hK hO kr49 (k := 97) (b := 98) rfl hP (by omega) (by omega) dDA_makePair_145 (fun r50 kr50 => ?_)
      have hn26 : nsp (98 + i21) = (0, 256, []) := rows_ok 98 7 (by decide) _ (by omega)
      refine mp_v (cx := []) (wr := []) hP hD hS hA [] [] rfl rfl rfl (by decide) (va_runV (As := [.ref r50]) (rest := []) F (N_RG_transform_8 l g _ T s32 pl hO hU r48 r50 (98 + i21) kr48 kr50 hn26) (cwV 1 hts (wg_app (wg_c kw_711 (wg_c kw_637 (wg_c kw_638 (wg_c kw_4 wg_n)))) kw_639) rfl rfl rfl (by decide +kernel) ⟨by decide, by decide⟩) (pn_W "LatticeKeys$Ring" (en_ok g) (ci := 4) (kn := 22) (fl := [(1, 8380417), (1, 8), (1, 8347681), (3, 23)]) hK hO kr48 rfl hP hD hS hA hE [] rfl rfl rfl) rfl rfl hl.1 rfl (lv_room (Nat.le_of_ble_eq_true rfl)) dDA_makePair_146 ⟨by omega, by omega⟩) (fun  u36 H locs hu36 hP hD hS => ?_)
      obtain ⟨s42, pl⟩ := u36
      obtain ⟨⟨eq36, hFc36, -⟩, hO⟩ := hu36
      have hO : okn g T s42 pl := hO
      have hP : va_P g.1 vcl ([] ++ pl) _ := hP
      have hD : va_D _ ([] ++ pl) := hD
      have hFc36 : frm (M_RG_transform_8 (98 + i21)) s32 s42 := hFc36
      replace hR := bnd_step hR eq36
      have hF := frm_tr hF hFc36 (fun k hk => by unfold M_RG_transform_8 at hk; unfold M_DA_makePair_1; omega)
      refine W.widen (k := 0) (n := 0) (by omega) (by omega) ?_
      refine mi_iinc (k := 0) (x := i21) (d := 1) (y := i21 + 1) (lv' := [(5, .int (nI (i21 + 1))), (0, .ref h0), (1, .ref st), (3, .ref pk), (4, .ref sk)]) hx hb dDA_makePair_149 hl rfl (by decide) rfl (by decide) rfl (fun ls hl => ?_)
      refine lv_goto (tgt := 126) hx hb dDA_makePair_152 (by decide) ?_
      exact ih21 (i21 + 1) s42 pl ls H locs (by omega) hF hR (lv_sub hl [0, 1, 2, 3, 4] rfl) hO hP hD hS
  exact lp21 5 0 s31 pl ls _ _ (by omega) hF hR (lv_sub hl [0, 1, 2, 4, 5] rfl) hO hP hD hS
def M_DA_makePair_2 (pp : Nat) (psk : Nat) (k : Nat) : Prop := (106 ≤ k ∧ k < 114) ∨ (132 ≤ k ∧ k < 140) ∨ (41 ≤ k ∧ k < 97) ∨ (98 ≤ k ∧ k < 105) ∨ k = 141 ∨ k = 142 ∨ k = 143 ∨ k = 16 ∨ k = 18 ∨ k = pp ∨ k = psk ∨ (0 : Nat) = 1
noncomputable def F_DA_makePair_2_L1 (pp : Nat) (psk : Nat) : Nat → Nat → Sto → Sto
  | 0, i22, s33 => bnd (F_DA_digestOf pp 2592 s33) fun s34 => bnd (sC s34 143 psk 0 64 64) fun s35 => s35
  | n22 + 1, i22, s33 => bnd (F_DA_multiplyRow_secret_2 i22 s33) fun s36 => bnd (F_RG_restore_8 (132 + i22) s36) fun s37 => bnd (F_RG_add_8 (132 + i22) (106 + i22) s37) fun s38 => bnd (F_DA_splitRow (132 + i22) s38) fun s39 => bnd (F_BT_pack (132 + i22) 10 pp 2592 (32 + (320 * i22)) s39) fun s40 => bnd (F_BT_pack 141 13 psk 4896 (1568 + (416 * i22)) s40) fun s41 => F_DA_makePair_2_L1 pp psk n22 (i22 + 1) s41
noncomputable def F_DA_makePair_2_L0 (pp : Nat) (psk : Nat) : Nat → Nat → Sto → Sto
  | 0, i21, s32 => F_DA_makePair_2_L1 pp psk 8 0 s32
  | n21 + 1, i21, s32 => bnd (F_RG_transform_8 (98 + i21) s32) fun s42 => F_DA_makePair_2_L0 pp psk n21 (i21 + 1) s42
noncomputable def F_DA_makePair_2 (pch : Nat) (n : Nat) (pp : Nat) (psk : Nat) (s : Sto) : Sto := bnd (F_SP_start_3 16 17 s) fun s21 => bnd (F_SP_absorb 16 17 pch n 0 32 s21) fun s22 => bnd (F_SP_absorbByte 16 17 (nI 8) s22) fun s23 => bnd (F_SP_absorbByte 16 17 (nI 7) s23) fun s24 => bnd (F_SP_finish 16 17 s24) fun s25 => bnd (F_SP_squeeze 16 17 142 128 0 128 s25) fun s26 => bnd (sC s26 142 pp 0 0 32) fun s27 => bnd (sC s27 142 psk 0 0 32) fun s28 => bnd (sC s28 142 psk 96 32 32) fun s29 => bnd (F_DA_writeSmallVectors_2 psk s29) fun s30 => bnd (F_SA_expandMatrix_2 pp 2592 s30) fun s31 => F_DA_makePair_2_L0 pp psk 7 0 s31
set_option maxHeartbeats 8000000 in
set_option maxRecDepth 100000 in
theorem N_DA_makePair_2 (l : Launch) (g : Gd) (sz : Nat) (T : TyN) (s : Sto) (pl : va_W) (hO : okn g T s pl) (hU : inj T) (h0 st ch pk sk : Nat) (pch : Nat) (n : Nat) (pp : Nat) (psk : Nat) (k_h0 : T h0 = some 39) (k_st : T st = some 11) (k_ch : T ch = some pch) (n_ch : nsp pch = (1, n, [])) (k_pk : T pk = some pp) (n_pk : nsp pp = (1, 2592, [])) (k_sk : T sk = some psk) (n_sk : nsp psk = (1, 4896, [])) (h1 : 32 ≤ n) (h2 : n < 65536)  : Met l y_DA_makePair w_DA_makePair ({ frames := 6, cells := 0, slots := 0, locals := 176 } : Room) (va_Pc [.ref h0, .ref st, .ref ch, .ref pk, .ref sk] (pr (en g) g.1 vcl sz ([] ++ pl))) (va_Qv (fun (u : (Sto) × va_W) => (u.1 = F_DA_makePair_2 pch n pp psk s ∧ frm (M_DA_makePair_2 pp psk) s u.1 ∧ True) ∧ okn g T u.1 u.2) (po g.1 vcl (va_A ([] ++ pl) sz) (fun (u : (Sto) × va_W) => [] ++ u.2)) (va_A ([] ++ pl) sz)) 0 0 (va_A ([] ++ pl) sz) := by
  refine mc_entry (cc := c_DA_makePair) (maxL := 7) (ret := none) (by decide) rfl (Nat.le_of_ble_eq_true rfl) ?_
  intro p e s0 m args below meth c ls F hr hlk hnm hsz hP hD hE hA hl
  obtain ⟨hx, hb, hml, hown, hts⟩ := id F
  have hK := hE.1
  generalize va_A ([] ++ pl) sz = A at hD hE hA ⊢
  have hS : va_S A s0.heap s0.heap [] := va_S.rf
  have hl : lv_has ls 7 [(0, .ref h0), (1, .ref st), (2, .ref ch), (3, .ref pk), (4, .ref sk)] := hl
  have hR : F_DA_makePair_2 pch n pp psk s = F_DA_makePair_2 pch n pp psk s := rfl
  have hF : frm (M_DA_makePair_2 pp psk) s s := frm_rf
  refine lv_aload_n hx hb dDA_makePair_0 rfl (lv_at hl 0 rfl) ?_
  refine nw_get (C := "LatticeKeys$Dsa") (TT := T_DA) (N := 17) hx hb hts (wg_ft i_DA) hown hK hO k_h0 (kn := 39) (ci := 6) (fl := [(3, 16), (3, 22), (3, 37), (3, 40), (3, 97), (3, 105), (3, 114), (3, 123), (3, 131), (3, 140), (3, 141), (3, 142), (3, 143), (3, 144), (3, 145), (3, 146), (3, 147)]) rfl hP rfl 0 (by decide) (hts _ (wg_t kw_165)) (fun _ h9 => h9) (cd := (3, 16)) rfl dDA_makePair_1 (fun v21 hv21 => ?_)
  obtain ⟨r21, rfl, kr21⟩ := (show ∃ r : Nat, v21 = .ref r ∧ T r = some 16 from hv21)
  refine lv_iconst (v := nI 3) hx hb dDA_makePair_4 (by decide) ?_
  refine mp_v (cx := []) (wr := []) hP hD hS hA [] [] rfl rfl rfl (by decide) (va_runV (As := [.int (nI 3)]) (rest := []) F (N_SP_start_3 l g _ T s pl hO hU r21 16 17 kr21 rfl rfl) (cwV 1 hts (wg_app (wg_c kw_669 (wg_c kw_579 (wg_c kw_580 (wg_c kw_2 wg_n)))) kw_581) rfl rfl rfl (by decide +kernel) ⟨by decide, by decide⟩) (pn_W "LatticeKeys$Sponge" (en_ok g) (ci := 3) (kn := 16) (fl := [(3, 17), (0, 0), (0, 0), (0, 0)]) hK hO kr21 rfl hP hD hS hA hE [] rfl rfl rfl) rfl rfl hl.1 rfl (lv_room (Nat.le_of_ble_eq_true rfl)) dDA_makePair_5 ⟨by omega, by omega⟩) (fun  u21 H locs hu21 hP hD hS => ?_)
  obtain ⟨s21, pl⟩ := u21
  obtain ⟨⟨eq21, hFc21, ⟨x21, hx_21, hb_21⟩, ⟨x22, hx_22, hb_22⟩, -⟩, hO⟩ := hu21
  have hO : okn g T s21 pl := hO
  have hP : va_P g.1 vcl ([] ++ pl) _ := hP
  have hD : va_D _ ([] ++ pl) := hD
  have hFc21 : frm (M_SP_start_3 16) s s21 := hFc21
  have hb_21 : x21 = 0 := hb_21
  have hb_22 : x22 = 136 := hb_22
  replace hR := bnd_step hR eq21
  have hF := frm_tr hF hFc21 (fun k hk => by unfold M_SP_start_3 at hk; unfold M_DA_makePair_2; omega)
  refine W.widen (k := 0) (n := 0) (by omega) (by omega) ?_
  refine lv_aload_n hx hb dDA_makePair_8 rfl (lv_at hl 0 rfl) ?_
  refine nw_get (C := "LatticeKeys$Dsa") (TT := T_DA) (N := 17) hx hb hts (wg_ft i_DA) hown hK hO k_h0 (kn := 39) (ci := 6) (fl := [(3, 16), (3, 22), (3, 37), (3, 40), (3, 97), (3, 105), (3, 114), (3, 123), (3, 131), (3, 140), (3, 141), (3, 142), (3, 143), (3, 144), (3, 145), (3, 146), (3, 147)]) rfl hP rfl 0 (by decide) (hts _ (wg_t kw_165)) (fun _ h9 => h9) (cd := (3, 16)) rfl dDA_makePair_9 (fun v22 hv22 => ?_)
  obtain ⟨r22, rfl, kr22⟩ := (show ∃ r : Nat, v22 = .ref r ∧ T r = some 16 from hv22)
  refine lv_aload_n hx hb dDA_makePair_12 rfl (lv_at hl 2 rfl) ?_
  refine lv_iconst (v := nI 0) hx hb dDA_makePair_13 (by decide) ?_
  refine lv_bipush (v := nI 32) hx hb dDA_makePair_14 (by decide) ?_
  refine mp_v (cx := []) (wr := []) hP hD hS hA [] [] rfl rfl rfl (by decide) (va_runV (As := [.ref ch, .int (nI 0), .int (nI 32)]) (rest := []) F (N_SP_absorb l g _ T s21 pl hO hU r22 ch 16 17 pch n 0 32 x21 x22 kr22 rfl rfl k_ch n_ch hx_21 hx_22 (by omega) (by omega) (by omega) (by omega)) (cwV 3 hts (wg_app (wg_c kw_670 (wg_c kw_586 (wg_c kw_587 (wg_c kw_2 wg_n)))) kw_588) rfl rfl rfl (by decide +kernel) ⟨by decide, by decide⟩) (pn_W "LatticeKeys$Sponge" (en_ok g) (ci := 3) (kn := 16) (fl := [(3, 17), (0, 0), (0, 0), (0, 0)]) hK hO kr22 rfl hP hD hS hA hE [] rfl rfl rfl) rfl rfl hl.1 rfl (lv_room (Nat.le_of_ble_eq_true rfl)) dDA_makePair_16 ⟨by omega, by omega⟩) (fun  u22 H locs hu22 hP hD hS => ?_)
  obtain ⟨s22, pl⟩ := u22
  obtain ⟨⟨eq22, hFc22, ⟨x24, hx_24, hb_24⟩, ⟨x25, hx_25, hb_25⟩, -⟩, hO⟩ := hu22
  have hO : okn g T s22 pl := hO
  have hP : va_P g.1 vcl ([] ++ pl) _ := hP
  have hD : va_D _ ([] ++ pl) := hD
  have hFc22 : frm (M_SP_absorb 16) s21 s22 := hFc22
  have hb_24 : x24 < x22 := hb_24
  have hb_25 : x25 = x22 := hb_25
  replace hR := bnd_step hR eq22
  have hF := frm_tr hF hFc22 (fun k hk => by unfold M_SP_absorb at hk; unfold M_DA_makePair_2; omega)
  refine W.widen (k := 0) (n := 0) (by omega) (by omega) ?_
  refine lv_aload_n hx hb dDA_makePair_19 rfl (lv_at hl 0 rfl) ?_
  refine nw_get (C := "LatticeKeys$Dsa") (TT := T_DA) (N := 17) hx hb hts (wg_ft i_DA) hown hK hO k_h0 (kn := 39) (ci := 6) (fl := [(3, 16), (3, 22), (3, 37), (3, 40), (3, 97), (3, 105), (3, 114), (3, 123), (3, 131), (3, 140), (3, 141), (3, 142), (3, 143), (3, 144), (3, 145), (3, 146), (3, 147)]) rfl hP rfl 0 (by decide) (hts _ (wg_t kw_165)) (fun _ h9 => h9) (cd := (3, 16)) rfl dDA_makePair_20 (fun v23 hv23 => ?_)
  obtain ⟨r23, rfl, kr23⟩ := (show ∃ r : Nat, v23 = .ref r ∧ T r = some 16 from hv23)
  refine lv_aload_n hx hb dDA_makePair_23 rfl (lv_at hl 1 rfl) ?_
  refine nw_get (C := "LatticeKeys$DsaSet") (TT := T_DS) (N := 17) hx hb hts (wg_ft i_DS) hown hK hO k_st (kn := 11) (ci := 2) (fl := [(1, 8), (1, 7), (1, 2), (1, 3), (1, 60), (1, 64), (1, 20), (1, 524288), (1, 16), (1, 4), (1, 261888), (1, 75), (1, 120), (1, 2592), (1, 4896), (1, 4544), (1, 4627)]) rfl hP rfl 0 (by decide) (hts _ (wg_t kw_302)) (fun _ h9 => h9) (cd := (1, 8)) rfl dDA_makePair_24 (fun v24 hv24 => ?_)
  obtain rfl := (show v24 = .int (nI 8) from hv24)
  refine mp_v (cx := []) (wr := []) hP hD hS hA [] [] rfl rfl rfl (by decide) (va_runV (As := [.int (nI 8)]) (rest := []) F (N_SP_absorbByte l g _ T s22 pl hO hU r23 16 17 (nI 8) x24 x25 kr23 rfl rfl hx_24 hx_25 (by omega) (by omega)) (cwV 1 hts (wg_app (wg_c kw_671 (wg_c kw_590 (wg_c kw_591 (wg_c kw_2 wg_n)))) kw_592) rfl rfl rfl (by decide +kernel) ⟨by decide, by decide⟩) (pn_W "LatticeKeys$Sponge" (en_ok g) (ci := 3) (kn := 16) (fl := [(3, 17), (0, 0), (0, 0), (0, 0)]) hK hO kr23 rfl hP hD hS hA hE [] rfl rfl rfl) rfl rfl hl.1 rfl (lv_room (Nat.le_of_ble_eq_true rfl)) dDA_makePair_27 ⟨by omega, by omega⟩) (fun  u23 H locs hu23 hP hD hS => ?_)
  obtain ⟨s23, pl⟩ := u23
  obtain ⟨⟨eq23, hFc23, ⟨x27, hx_27, hb_27⟩, ⟨x28, hx_28, hb_28⟩, -⟩, hO⟩ := hu23
  have hO : okn g T s23 pl := hO
  have hP : va_P g.1 vcl ([] ++ pl) _ := hP
  have hD : va_D _ ([] ++ pl) := hD
  have hFc23 : frm (M_SP_absorbByte 16) s22 s23 := hFc23
  have hb_27 : x27 < x25 := hb_27
  have hb_28 : x28 = x25 := hb_28
  replace hR := bnd_step hR eq23
  have hF := frm_tr hF hFc23 (fun k hk => by unfold M_SP_absorbByte at hk; unfold M_DA_makePair_2; omega)
  refine W.widen (k := 0) (n := 0) (by omega) (by omega) ?_
  refine lv_aload_n hx hb dDA_makePair_30 rfl (lv_at hl 0 rfl) ?_
  refine nw_get (C := "LatticeKeys$Dsa") (TT := T_DA) (N := 17) hx hb hts (wg_ft i_DA) hown hK hO k_h0 (kn := 39) (ci := 6) (fl := [(3, 16), (3, 22), (3, 37), (3, 40), (3, 97), (3, 105), (3, 114), (3, 123), (3, 131), (3, 140), (3, 141), (3, 142), (3, 143), (3, 144), (3, 145), (3, 146), (3, 147)]) rfl hP rfl 0 (by decide) (hts _ (wg_t kw_165)) (fun _ h9 => h9) (cd := (3, 16)) rfl dDA_makePair_31 (fun v25 hv25 => ?_)
  obtain ⟨r24, rfl, kr24⟩ := (show ∃ r : Nat, v25 = .ref r ∧ T r = some 16 from hv25)
  refine lv_aload_n hx hb dDA_makePair_34 rfl (lv_at hl 1 rfl) ?_
  refine nw_get (C := "LatticeKeys$DsaSet") (TT := T_DS) (N := 17) hx hb hts (wg_ft i_DS) hown hK hO k_st (kn := 11) (ci := 2) (fl := [(1, 8), (1, 7), (1, 2), (1, 3), (1, 60), (1, 64), (1, 20), (1, 524288), (1, 16), (1, 4), (1, 261888), (1, 75), (1, 120), (1, 2592), (1, 4896), (1, 4544), (1, 4627)]) rfl hP rfl 1 (by decide) (hts _ (wg_t kw_305)) (fun _ h9 => h9) (cd := (1, 7)) rfl dDA_makePair_35 (fun v26 hv26 => ?_)
  obtain rfl := (show v26 = .int (nI 7) from hv26)
  refine mp_v (cx := []) (wr := []) hP hD hS hA [] [] rfl rfl rfl (by decide) (va_runV (As := [.int (nI 7)]) (rest := []) F (N_SP_absorbByte l g _ T s23 pl hO hU r24 16 17 (nI 7) x27 x28 kr24 rfl rfl hx_27 hx_28 (by omega) (by omega)) (cwV 1 hts (wg_app (wg_c kw_671 (wg_c kw_590 (wg_c kw_591 (wg_c kw_2 wg_n)))) kw_592) rfl rfl rfl (by decide +kernel) ⟨by decide, by decide⟩) (pn_W "LatticeKeys$Sponge" (en_ok g) (ci := 3) (kn := 16) (fl := [(3, 17), (0, 0), (0, 0), (0, 0)]) hK hO kr24 rfl hP hD hS hA hE [] rfl rfl rfl) rfl rfl hl.1 rfl (lv_room (Nat.le_of_ble_eq_true rfl)) dDA_makePair_38 ⟨by omega, by omega⟩) (fun  u24 H locs hu24 hP hD hS => ?_)
  obtain ⟨s24, pl⟩ := u24
  obtain ⟨⟨eq24, hFc24, ⟨x30, hx_30, hb_30⟩, ⟨x31, hx_31, hb_31⟩, -⟩, hO⟩ := hu24
  have hO : okn g T s24 pl := hO
  have hP : va_P g.1 vcl ([] ++ pl) _ := hP
  have hD : va_D _ ([] ++ pl) := hD
  have hFc24 : frm (M_SP_absorbByte 16) s23 s24 := hFc24
  have hb_30 : x30 < x28 := hb_30
  have hb_31 : x31 = x28 := hb_31
  replace hR := bnd_step hR eq24
  have hF := frm_tr hF hFc24 (fun k hk => by unfold M_SP_absorbByte at hk; unfold M_DA_makePair_2; omega)
  refine W.widen (k := 0) (n := 0) (by omega) (by omega) ?_
  refine lv_aload_n hx hb dDA_makePair_41 rfl (lv_at hl 0 rfl) ?_
  refine nw_get (C := "LatticeKeys$Dsa") (TT := T_DA) (N := 17) hx hb hts (wg_ft i_DA) hown hK hO k_h0 (kn := 39) (ci := 6) (fl := [(3, 16), (3, 22), (3, 37), (3, 40), (3, 97), (3, 105), (3, 114), (3, 123), (3, 131), (3, 140), (3, 141), (3, 142), (3, 143), (3, 144), (3, 145), (3, 146), (3, 147)]) rfl hP rfl 0 (by decide) (hts _ (wg_t kw_165)) (fun _ h9 => h9) (cd := (3, 16)) rfl dDA_makePair_42 (fun v27 hv27 => ?_)
  obtain ⟨r25, rfl, kr25⟩ := (show ∃ r : Nat, v27 = .ref r ∧ T r = some 16 from hv27)
  refine mp_v (cx := []) (wr := []) hP hD hS hA [] [] rfl rfl rfl (by decide) (va_runV (As := []) (rest := []) F (N_SP_finish l g _ T s24 pl hO hU r25 16 17 x30 x31 kr25 rfl rfl hx_30 hx_31 (by omega) (by omega)) (cwV 0 hts (wg_app (wg_c kw_672 (wg_c kw_611 (wg_c kw_612 (wg_c kw_2 wg_n)))) kw_613) rfl rfl rfl (by decide +kernel) ⟨by decide, by decide⟩) (pn_W "LatticeKeys$Sponge" (en_ok g) (ci := 3) (kn := 16) (fl := [(3, 17), (0, 0), (0, 0), (0, 0)]) hK hO kr25 rfl hP hD hS hA hE [] rfl rfl rfl) rfl rfl hl.1 rfl (lv_room (Nat.le_of_ble_eq_true rfl)) dDA_makePair_45 ⟨by omega, by omega⟩) (fun  u25 H locs hu25 hP hD hS => ?_)
  obtain ⟨s25, pl⟩ := u25
  obtain ⟨⟨eq25, hFc25, ⟨x33, hx_33, hb_33⟩, ⟨x34, hx_34, hb_34⟩, -⟩, hO⟩ := hu25
  have hO : okn g T s25 pl := hO
  have hP : va_P g.1 vcl ([] ++ pl) _ := hP
  have hD : va_D _ ([] ++ pl) := hD
  have hFc25 : frm (M_SP_finish 16) s24 s25 := hFc25
  have hb_33 : x33 = x31 := hb_33
  have hb_34 : x34 = x31 := hb_34
  replace hR := bnd_step hR eq25
  have hF := frm_tr hF hFc25 (fun k hk => by unfold M_SP_finish at hk; unfold M_DA_makePair_2; omega)
  refine W.widen (k := 0) (n := 0) (by omega) (by omega) ?_
  refine lv_aload_n hx hb dDA_makePair_48 rfl (lv_at hl 0 rfl) ?_
  refine nw_get (C := "LatticeKeys$Dsa") (TT := T_DA) (N := 17) hx hb hts (wg_ft i_DA) hown hK hO k_h0 (kn := 39) (ci := 6) (fl := [(3, 16), (3, 22), (3, 37), (3, 40), (3, 97), (3, 105), (3, 114), (3, 123), (3, 131), (3, 140), (3, 141), (3, 142), (3, 143), (3, 144), (3, 145), (3, 146), (3, 147)]) rfl hP rfl 0 (by decide) (hts _ (wg_t kw_165)) (fun _ h9 => h9) (cd := (3, 16)) rfl dDA_makePair_49 (fun v28 hv28 => ?_)
  obtain ⟨r26, rfl, kr26⟩ := (show ∃ r : Nat, v28 = .ref r ∧ T r = some 16 from hv28)
  refine lv_aload_n hx hb dDA_makePair_52 rfl (lv_at hl 0 rfl) ?_
  refine nw_get (C := "LatticeKeys$Dsa") (TT := T_DA) (N := 17) hx hb hts (wg_ft i_DA) hown hK hO k_h0 (kn := 39) (ci := 6) (fl := [(3, 16), (3, 22), (3, 37), (3, 40), (3, 97), (3, 105), (3, 114), (3, 123), (3, 131), (3, 140), (3, 141), (3, 142), (3, 143), (3, 144), (3, 145), (3, 146), (3, 147)]) rfl hP rfl 11 (by decide) (hts _ (wg_t kw_176)) (fun _ h9 => h9) (cd := (3, 142)) rfl dDA_makePair_53 (fun v29 hv29 => ?_)
  obtain ⟨r27, rfl, kr27⟩ := (show ∃ r : Nat, v29 = .ref r ∧ T r = some 142 from hv29)
  refine lv_iconst (v := nI 0) hx hb dDA_makePair_56 (by decide) ?_
  refine lv_sipush (v := nI 128) hx hb dDA_makePair_57 (by decide) ?_
  refine mp_v (cx := []) (wr := []) hP hD hS hA [] [] rfl rfl rfl (by decide) (va_runV (As := [.ref r27, .int (nI 0), .int (nI 128)]) (rest := []) F (N_SP_squeeze l g _ T s25 pl hO hU r26 r27 16 17 142 128 0 128 x33 x34 kr26 rfl rfl kr27 rfl hx_33 hx_34 (by omega) (by omega) (by omega) (by omega)) (cwV 3 hts (wg_app (wg_c kw_673 (wg_c kw_615 (wg_c kw_616 (wg_c kw_2 wg_n)))) kw_617) rfl rfl rfl (by decide +kernel) ⟨by decide, by decide⟩) (pn_W "LatticeKeys$Sponge" (en_ok g) (ci := 3) (kn := 16) (fl := [(3, 17), (0, 0), (0, 0), (0, 0)]) hK hO kr26 rfl hP hD hS hA hE [] rfl rfl rfl) rfl rfl hl.1 rfl (lv_room (Nat.le_of_ble_eq_true rfl)) dDA_makePair_60 ⟨by omega, by omega⟩) (fun  u26 H locs hu26 hP hD hS => ?_)
  obtain ⟨s26, pl⟩ := u26
  obtain ⟨⟨eq26, hFc26, ⟨x36, hx_36, hb_36⟩, ⟨x37, hx_37, hb_37⟩, -⟩, hO⟩ := hu26
  have hO : okn g T s26 pl := hO
  have hP : va_P g.1 vcl ([] ++ pl) _ := hP
  have hD : va_D _ ([] ++ pl) := hD
  have hFc26 : frm (M_SP_squeeze 16 142) s25 s26 := hFc26
  have hb_36 : x36 ≤ x34 := hb_36
  have hb_37 : x37 = x34 := hb_37
  replace hR := bnd_step hR eq26
  have hF := frm_tr hF hFc26 (fun k hk => by unfold M_SP_squeeze at hk; unfold M_DA_makePair_2; omega)
  refine W.widen (k := 0) (n := 0) (by omega) (by omega) ?_
  refine lv_aload_n hx hb dDA_makePair_63 rfl (lv_at hl 0 rfl) ?_
  refine nw_get (C := "LatticeKeys$Dsa") (TT := T_DA) (N := 17) hx hb hts (wg_ft i_DA) hown hK hO k_h0 (kn := 39) (ci := 6) (fl := [(3, 16), (3, 22), (3, 37), (3, 40), (3, 97), (3, 105), (3, 114), (3, 123), (3, 131), (3, 140), (3, 141), (3, 142), (3, 143), (3, 144), (3, 145), (3, 146), (3, 147)]) rfl hP rfl 11 (by decide) (hts _ (wg_t kw_176)) (fun _ h9 => h9) (cd := (3, 142)) rfl dDA_makePair_64 (fun v30 hv30 => ?_)
  obtain ⟨r28, rfl, kr28⟩ := (show ∃ r : Nat, v30 = .ref r ∧ T r = some 142 from hv30)
  refine lv_iconst (v := nI 0) hx hb dDA_makePair_67 (by decide) ?_
  refine lv_aload_n hx hb dDA_makePair_68 rfl (lv_at hl 3 rfl) ?_
  refine lv_iconst (v := nI 0) hx hb dDA_makePair_69 (by decide) ?_
  refine lv_bipush (v := nI 32) hx hb dDA_makePair_70 (by decide) ?_
  refine nw_copyb hx hb (hml.trans hl.1.symm) hown (hts _ (wg_t kw_674)) (hts _ (wg_t kw_526)) (hts _ (wg_t kw_525)) (hts _ (wg_t kw_19)) hK hO hU kr28 (k0 := 142) rfl k_pk (k1 := pp) n_pk hP hD hS (sp := 0) (dp := 0) (n := 32) (by omega) (by omega) (by omega) (by decide) (Nat.le_of_ble_eq_true rfl) dDA_makePair_72 (fun s27 pl H locs es21 hO hP hD hS => ?_)
  replace hR := bnd_step hR es21
  have hF := frm_sC hF es21 (by unfold M_DA_makePair_2; omega)
  refine lv_aload_n hx hb dDA_makePair_75 rfl (lv_at hl 0 rfl) ?_
  refine nw_get (C := "LatticeKeys$Dsa") (TT := T_DA) (N := 17) hx hb hts (wg_ft i_DA) hown hK hO k_h0 (kn := 39) (ci := 6) (fl := [(3, 16), (3, 22), (3, 37), (3, 40), (3, 97), (3, 105), (3, 114), (3, 123), (3, 131), (3, 140), (3, 141), (3, 142), (3, 143), (3, 144), (3, 145), (3, 146), (3, 147)]) rfl hP rfl 11 (by decide) (hts _ (wg_t kw_176)) (fun _ h9 => h9) (cd := (3, 142)) rfl dDA_makePair_76 (fun v31 hv31 => ?_)
  obtain ⟨r29, rfl, kr29⟩ := (show ∃ r : Nat, v31 = .ref r ∧ T r = some 142 from hv31)
  refine lv_iconst (v := nI 0) hx hb dDA_makePair_79 (by decide) ?_
  refine lv_aload hx hb dDA_makePair_80 (lv_at hl 4 rfl) ?_
  refine lv_iconst (v := nI 0) hx hb dDA_makePair_82 (by decide) ?_
  refine lv_bipush (v := nI 32) hx hb dDA_makePair_83 (by decide) ?_
  refine nw_copyb hx hb (hml.trans hl.1.symm) hown (hts _ (wg_t kw_674)) (hts _ (wg_t kw_526)) (hts _ (wg_t kw_525)) (hts _ (wg_t kw_19)) hK hO hU kr29 (k0 := 142) rfl k_sk (k1 := psk) n_sk hP hD hS (sp := 0) (dp := 0) (n := 32) (by omega) (by omega) (by omega) (by decide) (Nat.le_of_ble_eq_true rfl) dDA_makePair_85 (fun s28 pl H locs es22 hO hP hD hS => ?_)
  replace hR := bnd_step hR es22
  have hF := frm_sC hF es22 (by unfold M_DA_makePair_2; omega)
  refine lv_aload_n hx hb dDA_makePair_88 rfl (lv_at hl 0 rfl) ?_
  refine nw_get (C := "LatticeKeys$Dsa") (TT := T_DA) (N := 17) hx hb hts (wg_ft i_DA) hown hK hO k_h0 (kn := 39) (ci := 6) (fl := [(3, 16), (3, 22), (3, 37), (3, 40), (3, 97), (3, 105), (3, 114), (3, 123), (3, 131), (3, 140), (3, 141), (3, 142), (3, 143), (3, 144), (3, 145), (3, 146), (3, 147)]) rfl hP rfl 11 (by decide) (hts _ (wg_t kw_176)) (fun _ h9 => h9) (cd := (3, 142)) rfl dDA_makePair_89 (fun v32 hv32 => ?_)
  obtain ⟨r30, rfl, kr30⟩ := (show ∃ r : Nat, v32 = .ref r ∧ T r = some 142 from hv32)
  refine lv_bipush (v := nI 96) hx hb dDA_makePair_92 (by decide) ?_
  refine lv_aload hx hb dDA_makePair_94 (lv_at hl 4 rfl) ?_
  refine lv_bipush (v := nI 32) hx hb dDA_makePair_96 (by decide) ?_
  refine lv_bipush (v := nI 32) hx hb dDA_makePair_98 (by decide) ?_
  refine nw_copyb hx hb (hml.trans hl.1.symm) hown (hts _ (wg_t kw_674)) (hts _ (wg_t kw_526)) (hts _ (wg_t kw_525)) (hts _ (wg_t kw_19)) hK hO hU kr30 (k0 := 142) rfl k_sk (k1 := psk) n_sk hP hD hS (sp := 96) (dp := 32) (n := 32) (by omega) (by omega) (by omega) (by decide) (Nat.le_of_ble_eq_true rfl) dDA_makePair_100 (fun s29 pl H locs es23 hO hP hD hS => ?_)
  replace hR := bnd_step hR es23
  have hF := frm_sC hF es23 (by unfold M_DA_makePair_2; omega)
  refine lv_aload_n hx hb dDA_makePair_103 rfl (lv_at hl 0 rfl) ?_
  refine lv_aload_n hx hb dDA_makePair_104 rfl (lv_at hl 1 rfl) ?_
  refine lv_aload hx hb dDA_makePair_105 (lv_at hl 4 rfl) ?_
  refine mp_v (cx := []) (wr := []) hP hD hS hA [] [] rfl rfl rfl (by decide) (va_runV (As := [.ref st, .ref sk]) (rest := []) F (N_DA_writeSmallVectors_2 l g _ T s29 pl hO hU h0 st sk psk k_h0 k_st k_sk n_sk) (cwV 2 hts (wg_app (wg_c kw_675 (wg_c kw_677 (wg_c ks_11 (wg_c kw_5 wg_n)))) kw_678) rfl rfl rfl (by decide +kernel) ⟨by decide, by decide⟩) (pn_W "LatticeKeys$Dsa" (en_ok g) (ci := 6) (kn := 39) (fl := [(3, 16), (3, 22), (3, 37), (3, 40), (3, 97), (3, 105), (3, 114), (3, 123), (3, 131), (3, 140), (3, 141), (3, 142), (3, 143), (3, 144), (3, 145), (3, 146), (3, 147)]) hK hO k_h0 rfl hP hD hS hA hE [] rfl rfl rfl) rfl rfl hl.1 rfl (lv_room (Nat.le_of_ble_eq_true rfl)) dDA_makePair_107 ⟨by omega, by omega⟩) (fun  u27 H locs hu27 hP hD hS => ?_)
  obtain ⟨s30, pl⟩ := u27
  obtain ⟨⟨eq27, hFc27, -⟩, hO⟩ := hu27
  have hO : okn g T s30 pl := hO
  have hP : va_P g.1 vcl ([] ++ pl) _ := hP
  have hD : va_D _ ([] ++ pl) := hD
  have hFc27 : frm (M_DA_writeSmallVectors_2 psk) s29 s30 := hFc27
  replace hR := bnd_step hR eq27
  have hF := frm_tr hF hFc27 (fun k hk => by unfold M_DA_writeSmallVectors_2 at hk; unfold M_DA_makePair_2; omega)
  refine W.widen (k := 0) (n := 0) (by omega) (by omega) ?_
  refine lv_aload_n hx hb dDA_makePair_110 rfl (lv_at hl 0 rfl) ?_
  refine nw_get (C := "LatticeKeys$Dsa") (TT := T_DA) (N := 17) hx hb hts (wg_ft i_DA) hown hK hO k_h0 (kn := 39) (ci := 6) (fl := [(3, 16), (3, 22), (3, 37), (3, 40), (3, 97), (3, 105), (3, 114), (3, 123), (3, 131), (3, 140), (3, 141), (3, 142), (3, 143), (3, 144), (3, 145), (3, 146), (3, 147)]) rfl hP rfl 2 (by decide) (hts _ (wg_t kw_167)) (fun _ h9 => h9) (cd := (3, 37)) rfl dDA_makePair_111 (fun v33 hv33 => ?_)
  obtain ⟨r31, rfl, kr31⟩ := (show ∃ r : Nat, v33 = .ref r ∧ T r = some 37 from hv33)
  refine lv_aload_n hx hb dDA_makePair_114 rfl (lv_at hl 1 rfl) ?_
  refine lv_aload_n hx hb dDA_makePair_115 rfl (lv_at hl 3 rfl) ?_
  refine lv_aload_n hx hb dDA_makePair_116 rfl (lv_at hl 0 rfl) ?_
  refine nw_get (C := "LatticeKeys$Dsa") (TT := T_DA) (N := 17) hx hb hts (wg_ft i_DA) hown hK hO k_h0 (kn := 39) (ci := 6) (fl := [(3, 16), (3, 22), (3, 37), (3, 40), (3, 97), (3, 105), (3, 114), (3, 123), (3, 131), (3, 140), (3, 141), (3, 142), (3, 143), (3, 144), (3, 145), (3, 146), (3, 147)]) rfl hP rfl 3 (by decide) (hts _ (wg_t kw_168)) (fun _ h9 => h9) (cd := (3, 40)) rfl dDA_makePair_117 (fun v34 hv34 => ?_)
  obtain ⟨r32, rfl, kr32⟩ := (show ∃ r : Nat, v34 = .ref r ∧ T r = some 40 from hv34)
  refine mp_v (cx := []) (wr := []) hP hD hS hA [] [] rfl rfl rfl (by decide) (va_runV (As := [.ref st, .ref pk, .ref r32]) (rest := []) F (N_SA_expandMatrix_2 l g _ T s30 pl hO hU r31 st pk r32 pp 2592 kr31 k_st k_pk n_pk kr32 (by omega) (by omega)) (cwV 3 hts (wg_app (wg_c kw_703 (wg_c kw_704 (wg_c kw_705 (wg_c kw_6 wg_n)))) kw_706) rfl rfl rfl (by decide +kernel) ⟨by decide, by decide⟩) (pn_W "LatticeKeys$DsaSampler" (en_ok g) (ci := 7) (kn := 37) (fl := [(3, 18), (3, 38)]) hK hO kr31 rfl hP hD hS hA hE [] rfl rfl rfl) rfl rfl hl.1 rfl (lv_room (Nat.le_of_ble_eq_true rfl)) dDA_makePair_120 ⟨by omega, by omega⟩) (fun  u28 H locs hu28 hP hD hS => ?_)
  obtain ⟨s31, pl⟩ := u28
  obtain ⟨⟨eq28, hFc28, -⟩, hO⟩ := hu28
  have hO : okn g T s31 pl := hO
  have hP : va_P g.1 vcl ([] ++ pl) _ := hP
  have hD : va_D _ ([] ++ pl) := hD
  have hFc28 : frm (M_SA_expandMatrix_2) s30 s31 := hFc28
  replace hR := bnd_step hR eq28
  have hF := frm_tr hF hFc28 (fun k hk => by unfold M_SA_expandMatrix_2 at hk; unfold M_DA_makePair_2; omega)
  refine W.widen (k := 0) (n := 0) (by omega) (by omega) ?_
  refine lv_iconst (v := nI 0) hx hb dDA_makePair_123 (by decide) ?_
  refine lv_istore (lv' := [(5, .int (nI 0)), (0, .ref h0), (1, .ref st), (2, .ref ch), (3, .ref pk), (4, .ref sk)]) hx hb dDA_makePair_124 hl (by decide) rfl (fun ls hl => ?_)
  have lp21 : ∀ (n21 : Nat) (i21 : Nat) (s32 : Sto) (pl : va_W) (ls : Array Slot) (H : Heap) (locs : List Loc), n21 + i21 = 7 → frm (M_DA_makePair_2 pp psk) s s32 → F_DA_makePair_2 pch n pp psk s = F_DA_makePair_2_L0 pp psk n21 i21 s32 → lv_has ls 7 [(5, .int (nI i21)), (0, .ref h0), (1, .ref st), (3, .ref pk), (4, .ref sk)] → okn g T s32 pl → va_P g.1 vcl ([] ++ pl) H → va_D A ([] ++ pl) → va_S A s0.heap H locs → W p l e ({ frames := 6, cells := 0, slots := 0, locals := 176 } : Room) s0 m args below meth c H locs 0 0 (MQ below (va_Qv (fun (u : (Sto) × va_W) => (u.1 = F_DA_makePair_2 pch n pp psk s ∧ frm (M_DA_makePair_2 pp psk) s u.1 ∧ True) ∧ okn g T u.1 u.2) (po g.1 vcl A (fun (u : (Sto) × va_W) => [] ++ u.2)) A) args s0 0 0 A) (F0 m 126 ls []) := by
    intro n21
    induction n21 with
    | zero =>
      intro i21 s32 pl ls H locs hm21 hF hR hl hO hP hD hS
      refine lv_iload hx hb dDA_makePair_126 (lv_at hl 0 rfl) ?_
      refine lv_aload_n hx hb dDA_makePair_128 rfl (lv_at hl 2 rfl) ?_
      refine nw_get (C := "LatticeKeys$DsaSet") (TT := T_DS) (N := 17) hx hb hts (wg_ft i_DS) hown hK hO k_st (kn := 11) (ci := 2) (fl := [(1, 8), (1, 7), (1, 2), (1, 3), (1, 60), (1, 64), (1, 20), (1, 524288), (1, 16), (1, 4), (1, 261888), (1, 75), (1, 120), (1, 2592), (1, 4896), (1, 4544), (1, 4627)]) rfl hP rfl 1 (by decide) (hts _ (wg_t kw_305)) (fun _ h9 => h9) (cd := (1, 7)) rfl dDA_makePair_129 (fun v35 hv35 => ?_)
      obtain rfl := (show v35 = .int (nI 7) from hv35)
      refine mi_ge (tgt := 155) hx hb dDA_makePair_132 (by decide) (by omega) (by omega) (fun h21 => ?_) (fun h21 => absurd h21 (by omega))
      refine lv_sipush (v := nI 128) hx hb dDA_makePair_155 (by decide) ?_
      refine lv_bipush (v := nI 32) hx hb dDA_makePair_158 (by decide) ?_
      refine lv_aload_n hx hb dDA_makePair_160 rfl (lv_at hl 2 rfl) ?_
      refine nw_get (C := "LatticeKeys$DsaSet") (TT := T_DS) (N := 17) hx hb hts (wg_ft i_DS) hown hK hO k_st (kn := 11) (ci := 2) (fl := [(1, 8), (1, 7), (1, 2), (1, 3), (1, 60), (1, 64), (1, 20), (1, 524288), (1, 16), (1, 4), (1, 261888), (1, 75), (1, 120), (1, 2592), (1, 4896), (1, 4544), (1, 4627)]) rfl hP rfl 3 (by decide) (hts _ (wg_t kw_310)) (fun _ h9 => h9) (cd := (1, 3)) rfl dDA_makePair_161 (fun v36 hv36 => ?_)
      obtain rfl := (show v36 = .int (nI 3) from hv36)
      refine mi_imul hx hb dDA_makePair_164 ?_
      refine mi_as (show nI (32 * 3) = nI 96 from rfl) ?_
      refine lv_aload_n hx hb dDA_makePair_165 rfl (lv_at hl 2 rfl) ?_
      refine nw_get (C := "LatticeKeys$DsaSet") (TT := T_DS) (N := 17) hx hb hts (wg_ft i_DS) hown hK hO k_st (kn := 11) (ci := 2) (fl := [(1, 8), (1, 7), (1, 2), (1, 3), (1, 60), (1, 64), (1, 20), (1, 524288), (1, 16), (1, 4), (1, 261888), (1, 75), (1, 120), (1, 2592), (1, 4896), (1, 4544), (1, 4627)]) rfl hP rfl 0 (by decide) (hts _ (wg_t kw_302)) (fun _ h9 => h9) (cd := (1, 8)) rfl dDA_makePair_166 (fun v37 hv37 => ?_)
      obtain rfl := (show v37 = .int (nI 8) from hv37)
      refine lv_aload_n hx hb dDA_makePair_169 rfl (lv_at hl 2 rfl) ?_
      refine nw_get (C := "LatticeKeys$DsaSet") (TT := T_DS) (N := 17) hx hb hts (wg_ft i_DS) hown hK hO k_st (kn := 11) (ci := 2) (fl := [(1, 8), (1, 7), (1, 2), (1, 3), (1, 60), (1, 64), (1, 20), (1, 524288), (1, 16), (1, 4), (1, 261888), (1, 75), (1, 120), (1, 2592), (1, 4896), (1, 4544), (1, 4627)]) rfl hP rfl 1 (by decide) (hts _ (wg_t kw_305)) (fun _ h9 => h9) (cd := (1, 7)) rfl dDA_makePair_170 (fun v38 hv38 => ?_)
      obtain rfl := (show v38 = .int (nI 7) from hv38)
      refine mi_iadd hx hb dDA_makePair_173 ?_
      refine mi_as (show nI (8 + 7) = nI 15 from rfl) ?_
      refine mi_imul hx hb dDA_makePair_174 ?_
      refine mi_as (show nI (96 * 15) = nI 1440 from rfl) ?_
      refine mi_iadd hx hb dDA_makePair_175 ?_
      refine mi_as (show nI (128 + 1440) = nI 1568 from rfl) ?_
      refine lv_istore (lv' := [(5, .int (nI 1568)), (0, .ref h0), (1, .ref st), (3, .ref pk), (4, .ref sk)]) hx hb dDA_makePair_176 hl (by decide) rfl (fun ls hl => ?_)
      refine lv_iconst (v := nI 0) hx hb dDA_makePair_178 (by decide) ?_
      refine lv_istore (lv' := [(6, .int (nI 0)), (5, .int (nI 1568)), (0, .ref h0), (1, .ref st), (3, .ref pk), (4, .ref sk)]) hx hb dDA_makePair_179 hl (by decide) rfl (fun ls hl => ?_)
      have lp22 : ∀ (n22 : Nat) (i22 : Nat) (s33 : Sto) (pl : va_W) (ls : Array Slot) (H : Heap) (locs : List Loc), n22 + i22 = 8 → frm (M_DA_makePair_2 pp psk) s s33 → F_DA_makePair_2 pch n pp psk s = F_DA_makePair_2_L1 pp psk n22 i22 s33 → lv_has ls 7 [(6, .int (nI i22)), (5, .int (nI 1568)), (0, .ref h0), (1, .ref st), (3, .ref pk), (4, .ref sk)] → okn g T s33 pl → va_P g.1 vcl ([] ++ pl) H → va_D A ([] ++ pl) → va_S A s0.heap H locs → W p l e ({ frames := 6, cells := 0, slots := 0, locals := 176 } : Room) s0 m args below meth c H locs 0 0 (MQ below (va_Qv (fun (u : (Sto) × va_W) => (u.1 = F_DA_makePair_2 pch n pp psk s ∧ frm (M_DA_makePair_2 pp psk) s u.1 ∧ True) ∧ okn g T u.1 u.2) (po g.1 vcl A (fun (u : (Sto) × va_W) => [] ++ u.2)) A) args s0 0 0 A) (F0 m 181 ls []) := by
        intro n22
        induction n22 with
        | zero =>
          intro i22 s33 pl ls H locs hm22 hF hR hl hO hP hD hS
          refine lv_iload hx hb dDA_makePair_181 (lv_at hl 0 rfl) ?_
          refine lv_aload_n hx hb dDA_makePair_183 rfl (lv_at hl 3 rfl) ?_
          refine nw_get (C := "LatticeKeys$DsaSet") (TT := T_DS) (N := 17) hx hb hts (wg_ft i_DS) hown hK hO k_st (kn := 11) (ci := 2) (fl := [(1, 8), (1, 7), (1, 2), (1, 3), (1, 60), (1, 64), (1, 20), (1, 524288), (1, 16), (1, 4), (1, 261888), (1, 75), (1, 120), (1, 2592), (1, 4896), (1, 4544), (1, 4627)]) rfl hP rfl 0 (by decide) (hts _ (wg_t kw_302)) (fun _ h9 => h9) (cd := (1, 8)) rfl dDA_makePair_184 (fun v39 hv39 => ?_)
          obtain rfl := (show v39 = .int (nI 8) from hv39)
          refine mi_ge (tgt := 295) hx hb dDA_makePair_187 (by decide) (by omega) (by omega) (fun h22 => ?_) (fun h22 => absurd h22 (by omega))
          refine lv_aload_n hx hb dDA_makePair_295 rfl (lv_at hl 2 rfl) ?_
          refine lv_aload_n hx hb dDA_makePair_296 rfl (lv_at hl 4 rfl) ?_
          refine mp_v (cx := []) (wr := []) hP hD hS hA [] [] rfl rfl rfl (by decide) (va_runV (As := [.ref pk]) (rest := []) F (N_DA_digestOf l g _ T s33 pl hO hU h0 pk pp 2592 k_h0 k_pk n_pk (by omega)) (cwV 1 hts (wg_app (wg_c kw_736 (wg_c kw_738 (wg_c ks_18 (wg_c kw_5 wg_n)))) kw_739) rfl rfl rfl (by decide +kernel) ⟨by decide, by decide⟩) (pn_W "LatticeKeys$Dsa" (en_ok g) (ci := 6) (kn := 39) (fl := [(3, 16), (3, 22), (3, 37), (3, 40), (3, 97), (3, 105), (3, 114), (3, 123), (3, 131), (3, 140), (3, 141), (3, 142), (3, 143), (3, 144), (3, 145), (3, 146), (3, 147)]) hK hO k_h0 rfl hP hD hS hA hE [] rfl rfl rfl) rfl rfl hl.1 rfl (lv_room (Nat.le_of_ble_eq_true rfl)) dDA_makePair_297 ⟨by omega, by omega⟩) (fun  u29 H locs hu29 hP hD hS => ?_)
          obtain ⟨s34, pl⟩ := u29
          obtain ⟨⟨eq29, hFc29, -⟩, hO⟩ := hu29
          have hO : okn g T s34 pl := hO
          have hP : va_P g.1 vcl ([] ++ pl) _ := hP
          have hD : va_D _ ([] ++ pl) := hD
          have hFc29 : frm (M_DA_digestOf) s33 s34 := hFc29
          replace hR := bnd_step hR eq29
          have hF := frm_tr hF hFc29 (fun k hk => by unfold M_DA_digestOf at hk; unfold M_DA_makePair_2; omega)
          refine W.widen (k := 0) (n := 0) (by omega) (by omega) ?_
          refine lv_aload_n hx hb dDA_makePair_300 rfl (lv_at hl 2 rfl) ?_
          refine nw_get (C := "LatticeKeys$Dsa") (TT := T_DA) (N := 17) hx hb hts (wg_ft i_DA) hown hK hO k_h0 (kn := 39) (ci := 6) (fl := [(3, 16), (3, 22), (3, 37), (3, 40), (3, 97), (3, 105), (3, 114), (3, 123), (3, 131), (3, 140), (3, 141), (3, 142), (3, 143), (3, 144), (3, 145), (3, 146), (3, 147)]) rfl hP rfl 12 (by decide) (hts _ (wg_t kw_177)) (fun _ h9 => h9) (cd := (3, 143)) rfl dDA_makePair_301 (fun v40 hv40 => ?_)
          obtain ⟨r33, rfl, kr33⟩ := (show ∃ r : Nat, v40 = .ref r ∧ T r = some 143 from hv40)
          refine lv_iconst (v := nI 0) hx hb dDA_makePair_304 (by decide) ?_
          refine lv_aload hx hb dDA_makePair_305 (lv_at hl 5 rfl) ?_
          refine lv_bipush (v := nI 64) hx hb dDA_makePair_307 (by decide) ?_
          refine lv_bipush (v := nI 64) hx hb dDA_makePair_309 (by decide) ?_
          refine nw_copyb hx hb (hml.trans hl.1.symm) hown (hts _ (wg_t kw_674)) (hts _ (wg_t kw_526)) (hts _ (wg_t kw_525)) (hts _ (wg_t kw_19)) hK hO hU kr33 (k0 := 143) rfl k_sk (k1 := psk) n_sk hP hD hS (sp := 0) (dp := 64) (n := 64) (by omega) (by omega) (by omega) (by decide) (Nat.le_of_ble_eq_true rfl) dDA_makePair_311 (fun s35 pl H locs es24 hO hP hD hS => ?_)
          replace hR := bnd_step hR es24
          have hF := frm_sC hF es24 (by unfold M_DA_makePair_2; omega)
          exact mp_vret hx hb hr hlk hP hD hS (s35, pl) ⟨⟨hR.symm, hF, trivial⟩, hO⟩ [] rfl rfl rfl (by omega) (by omega) dDA_makePair_314
        | succ n22 ih22 =>
          intro i22 s33 pl ls H locs hm22 hF hR hl hO hP hD hS
          refine lv_iload hx hb dDA_makePair_181 (lv_at hl 0 rfl) ?_
          refine lv_aload_n hx hb dDA_makePair_183 rfl (lv_at hl 3 rfl) ?_
          refine nw_get (C := "LatticeKeys$DsaSet") (TT := T_DS) (N := 17) hx hb hts (wg_ft i_DS) hown hK hO k_st (kn := 11) (ci := 2) (fl := [(1, 8), (1, 7), (1, 2), (1, 3), (1, 60), (1, 64), (1, 20), (1, 524288), (1, 16), (1, 4), (1, 261888), (1, 75), (1, 120), (1, 2592), (1, 4896), (1, 4544), (1, 4627)]) rfl hP rfl 0 (by decide) (hts _ (wg_t kw_302)) (fun _ h9 => h9) (cd := (1, 8)) rfl dDA_makePair_184 (fun v41 hv41 => ?_)
          obtain rfl := (show v41 = .int (nI 8) from hv41)
          refine mi_ge (tgt := 295) hx hb dDA_makePair_187 (by decide) (by omega) (by omega) (fun h23 => absurd h23 (by omega)) (fun h23 => ?_)
          refine lv_aload_n hx hb dDA_makePair_190 rfl (lv_at hl 2 rfl) ?_
          refine lv_aload_n hx hb dDA_makePair_191 rfl (lv_at hl 3 rfl) ?_
          refine lv_iload hx hb dDA_makePair_192 (lv_at hl 0 rfl) ?_
          refine lv_aload_n hx hb dDA_makePair_194 rfl (lv_at hl 2 rfl) ?_
          refine nw_get (C := "LatticeKeys$Dsa") (TT := T_DA) (N := 17) hx hb hts (wg_ft i_DA) hown hK hO k_h0 (kn := 39) (ci := 6) (fl := [(3, 16), (3, 22), (3, 37), (3, 40), (3, 97), (3, 105), (3, 114), (3, 123), (3, 131), (3, 140), (3, 141), (3, 142), (3, 143), (3, 144), (3, 145), (3, 146), (3, 147)]) rfl hP rfl 4 (by decide) (hts _ (wg_t kw_169)) (fun _ h9 => h9) (cd := (3, 97)) rfl dDA_makePair_195 (fun v42 hv42 => ?_)
          obtain ⟨r34, rfl, kr34⟩ := (show ∃ r : Nat, v42 = .ref r ∧ T r = some 97 from hv42)
          refine mp_v (cx := []) (wr := []) hP hD hS hA [] [] rfl rfl rfl (by decide) (va_runV (As := [.ref st, .int (nI i22), .ref r34]) (rest := []) F (N_DA_multiplyRow_secret_2 l g _ T s33 pl hO hU h0 st r34 i22 k_h0 k_st kr34 (by omega)) (cwV 3 hts (wg_app (wg_c kw_712 (wg_c kw_714 (wg_c ks_15 (wg_c kw_5 wg_n)))) kw_715) rfl rfl rfl (by decide +kernel) ⟨by decide, by decide⟩) (pn_W "LatticeKeys$Dsa" (en_ok g) (ci := 6) (kn := 39) (fl := [(3, 16), (3, 22), (3, 37), (3, 40), (3, 97), (3, 105), (3, 114), (3, 123), (3, 131), (3, 140), (3, 141), (3, 142), (3, 143), (3, 144), (3, 145), (3, 146), (3, 147)]) hK hO k_h0 rfl hP hD hS hA hE [] rfl rfl rfl) rfl rfl hl.1 rfl (lv_room (Nat.le_of_ble_eq_true rfl)) dDA_makePair_198 ⟨by omega, by omega⟩) (fun  u30 H locs hu30 hP hD hS => ?_)
          obtain ⟨s36, pl⟩ := u30
          obtain ⟨⟨eq30, hFc30, -⟩, hO⟩ := hu30
          have hO : okn g T s36 pl := hO
          have hP : va_P g.1 vcl ([] ++ pl) _ := hP
          have hD : va_D _ ([] ++ pl) := hD
          have hFc30 : frm (M_DA_multiplyRow_secret_2) s33 s36 := hFc30
          replace hR := bnd_step hR eq30
          have hF := frm_tr hF hFc30 (fun k hk => by unfold M_DA_multiplyRow_secret_2 at hk; unfold M_DA_makePair_2; omega)
          refine W.widen (k := 0) (n := 0) (by omega) (by omega) ?_
          refine lv_aload_n hx hb dDA_makePair_201 rfl (lv_at hl 2 rfl) ?_
          refine nw_get (C := "LatticeKeys$Dsa") (TT := T_DA) (N := 17) hx hb hts (wg_ft i_DA) hown hK hO k_h0 (kn := 39) (ci := 6) (fl := [(3, 16), (3, 22), (3, 37), (3, 40), (3, 97), (3, 105), (3, 114), (3, 123), (3, 131), (3, 140), (3, 141), (3, 142), (3, 143), (3, 144), (3, 145), (3, 146), (3, 147)]) rfl hP rfl 1 (by decide) (hts _ (wg_t kw_166)) (fun _ h9 => h9) (cd := (3, 22)) rfl dDA_makePair_202 (fun v43 hv43 => ?_)
          obtain ⟨r35, rfl, kr35⟩ := (show ∃ r : Nat, v43 = .ref r ∧ T r = some 22 from hv43)
          refine lv_aload_n hx hb dDA_makePair_205 rfl (lv_at hl 2 rfl) ?_
          refine nw_get (C := "LatticeKeys$Dsa") (TT := T_DA) (N := 17) hx hb hts (wg_ft i_DA) hown hK hO k_h0 (kn := 39) (ci := 6) (fl := [(3, 16), (3, 22), (3, 37), (3, 40), (3, 97), (3, 105), (3, 114), (3, 123), (3, 131), (3, 140), (3, 141), (3, 142), (3, 143), (3, 144), (3, 145), (3, 146), (3, 147)]) rfl hP rfl 8 (by decide) (hts _ (wg_t kw_173)) (fun _ h9 => h9) (cd := (3, 131)) rfl dDA_makePair_206 (fun v44 hv44 => ?_)
          obtain ⟨r36, rfl, kr36⟩ := (show ∃ r : Nat, v44 = .ref r ∧ T r = some 131 from hv44)
          refine lv_iload hx hb dDA_makePair_209 (lv_at hl 0 rfl) ?_
          refine nw_aald3 hx hb hK hO kr36 (k := 131) (b := 132) rfl hP (by omega) (by omega) dDA_makePair_211 (fun r37 kr37 => ?_)
          have hn21 : nsp (132 + i22) = (0, 256, []) := rows_ok 132 8 (by decide) _ (by omega)
          refine mp_v (cx := []) (wr := []) hP hD hS hA [] [] rfl rfl rfl (by decide) (va_runV (As := [.ref r37]) (rest := []) F (N_RG_restore_8 l g _ T s36 pl hO hU r35 r37 (132 + i22) kr35 kr37 hn21) (cwV 1 hts (wg_app (wg_c kw_720 (wg_c kw_721 (wg_c kw_722 (wg_c kw_4 wg_n)))) kw_723) rfl rfl rfl (by decide +kernel) ⟨by decide, by decide⟩) (pn_W "LatticeKeys$Ring" (en_ok g) (ci := 4) (kn := 22) (fl := [(1, 8380417), (1, 8), (1, 8347681), (3, 23)]) hK hO kr35 rfl hP hD hS hA hE [] rfl rfl rfl) rfl rfl hl.1 rfl (lv_room (Nat.le_of_ble_eq_true rfl)) dDA_makePair_212 ⟨by omega, by omega⟩) (fun  u31 H locs hu31 hP hD hS => ?_)
          obtain ⟨s37, pl⟩ := u31
          obtain ⟨⟨eq31, hFc31, -⟩, hO⟩ := hu31
          have hO : okn g T s37 pl := hO
          have hP : va_P g.1 vcl ([] ++ pl) _ := hP
          have hD : va_D _ ([] ++ pl) := hD
          have hFc31 : frm (M_RG_restore_8 (132 + i22)) s36 s37 := hFc31
          replace hR := bnd_step hR eq31
          have hF := frm_tr hF hFc31 (fun k hk => by unfold M_RG_restore_8 at hk; unfold M_DA_makePair_2; omega)
          refine W.widen (k := 0) (n := 0) (by omega) (by omega) ?_
          refine lv_aload_n hx hb dDA_makePair_215 rfl (lv_at hl 2 rfl) ?_
          refine nw_get (C := "LatticeKeys$Dsa") (TT := T_DA) (N := 17) hx hb hts (wg_ft i_DA) hown hK hO k_h0 (kn := 39) (ci := 6) (fl := [(3, 16), (3, 22), (3, 37), (3, 40), (3, 97), (3, 105), (3, 114), (3, 123), (3, 131), (3, 140), (3, 141), (3, 142), (3, 143), (3, 144), (3, 145), (3, 146), (3, 147)]) rfl hP rfl 1 (by decide) (hts _ (wg_t kw_166)) (fun _ h9 => h9) (cd := (3, 22)) rfl dDA_makePair_216 (fun v45 hv45 => ?_)
          obtain ⟨r38, rfl, kr38⟩ := (show ∃ r : Nat, v45 = .ref r ∧ T r = some 22 from hv45)
          refine lv_aload_n hx hb dDA_makePair_219 rfl (lv_at hl 2 rfl) ?_
          refine nw_get (C := "LatticeKeys$Dsa") (TT := T_DA) (N := 17) hx hb hts (wg_ft i_DA) hown hK hO k_h0 (kn := 39) (ci := 6) (fl := [(3, 16), (3, 22), (3, 37), (3, 40), (3, 97), (3, 105), (3, 114), (3, 123), (3, 131), (3, 140), (3, 141), (3, 142), (3, 143), (3, 144), (3, 145), (3, 146), (3, 147)]) rfl hP rfl 8 (by decide) (hts _ (wg_t kw_173)) (fun _ h9 => h9) (cd := (3, 131)) rfl dDA_makePair_220 (fun v46 hv46 => ?_)
          obtain ⟨r39, rfl, kr39⟩ := (show ∃ r : Nat, v46 = .ref r ∧ T r = some 131 from hv46)
          refine lv_iload hx hb dDA_makePair_223 (lv_at hl 0 rfl) ?_
          refine nw_aald3 hx hb hK hO kr39 (k := 131) (b := 132) rfl hP (by omega) (by omega) dDA_makePair_225 (fun r40 kr40 => ?_)
          have hn22 : nsp (132 + i22) = (0, 256, []) := rows_ok 132 8 (by decide) _ (by omega)
          refine lv_aload_n hx hb dDA_makePair_226 rfl (lv_at hl 2 rfl) ?_
          refine nw_get (C := "LatticeKeys$Dsa") (TT := T_DA) (N := 17) hx hb hts (wg_ft i_DA) hown hK hO k_h0 (kn := 39) (ci := 6) (fl := [(3, 16), (3, 22), (3, 37), (3, 40), (3, 97), (3, 105), (3, 114), (3, 123), (3, 131), (3, 140), (3, 141), (3, 142), (3, 143), (3, 144), (3, 145), (3, 146), (3, 147)]) rfl hP rfl 5 (by decide) (hts _ (wg_t kw_170)) (fun _ h9 => h9) (cd := (3, 105)) rfl dDA_makePair_227 (fun v47 hv47 => ?_)
          obtain ⟨r41, rfl, kr41⟩ := (show ∃ r : Nat, v47 = .ref r ∧ T r = some 105 from hv47)
          refine lv_iload hx hb dDA_makePair_230 (lv_at hl 0 rfl) ?_
          refine nw_aald3 hx hb hK hO kr41 (k := 105) (b := 106) rfl hP (by omega) (by omega) dDA_makePair_232 (fun r42 kr42 => ?_)
          have hn23 : nsp (106 + i22) = (0, 256, []) := rows_ok 106 8 (by decide) _ (by omega)
          refine mp_v (cx := []) (wr := []) hP hD hS hA [] [] rfl rfl rfl (by decide) (va_runV (As := [.ref r40, .ref r42]) (rest := []) F (N_RG_add_8 l g _ T s37 pl hO hU r38 r40 r42 (132 + i22) (106 + i22) kr38 kr40 hn22 kr42 hn23) (cwV 2 hts (wg_app (wg_c kw_728 (wg_c kw_729 (wg_c kw_730 (wg_c kw_4 wg_n)))) kw_731) rfl rfl rfl (by decide +kernel) ⟨by decide, by decide⟩) (pn_W "LatticeKeys$Ring" (en_ok g) (ci := 4) (kn := 22) (fl := [(1, 8380417), (1, 8), (1, 8347681), (3, 23)]) hK hO kr38 rfl hP hD hS hA hE [] rfl rfl rfl) rfl rfl hl.1 rfl (lv_room (Nat.le_of_ble_eq_true rfl)) dDA_makePair_233 ⟨by omega, by omega⟩) (fun  u32 H locs hu32 hP hD hS => ?_)
          obtain ⟨s38, pl⟩ := u32
          obtain ⟨⟨eq32, hFc32, -⟩, hO⟩ := hu32
          have hO : okn g T s38 pl := hO
          have hP : va_P g.1 vcl ([] ++ pl) _ := hP
          have hD : va_D _ ([] ++ pl) := hD
          have hFc32 : frm (M_RG_add_8 (132 + i22)) s37 s38 := hFc32
          replace hR := bnd_step hR eq32
          have hF := frm_tr hF hFc32 (fun k hk => by unfold M_RG_add_8 at hk; unfold M_DA_makePair_2; omega)
          refine W.widen (k := 0) (n := 0) (by omega) (by omega) ?_
          refine lv_aload_n hx hb dDA_makePair_236 rfl (lv_at hl 2 rfl) ?_
          refine lv_aload_n hx hb dDA_makePair_237 rfl (lv_at hl 2 rfl) ?_
          refine nw_get (C := "LatticeKeys$Dsa") (TT := T_DA) (N := 17) hx hb hts (wg_ft i_DA) hown hK hO k_h0 (kn := 39) (ci := 6) (fl := [(3, 16), (3, 22), (3, 37), (3, 40), (3, 97), (3, 105), (3, 114), (3, 123), (3, 131), (3, 140), (3, 141), (3, 142), (3, 143), (3, 144), (3, 145), (3, 146), (3, 147)]) rfl hP rfl 8 (by decide) (hts _ (wg_t kw_173)) (fun _ h9 => h9) (cd := (3, 131)) rfl dDA_makePair_238 (fun v48 hv48 => ?_)
          obtain ⟨r43, rfl, kr43⟩ := (show ∃ r : Nat, v48 = .ref r ∧ T r = some 131 from hv48)
          refine lv_iload hx hb dDA_makePair_241 (lv_at hl 0 rfl) ?_
          refine nw_aald3 hx hb hK hO kr43 (k := 131) (b := 132) rfl hP (by omega) (by omega) dDA_makePair_243 (fun r44 kr44 => ?_)
          have hn24 : nsp (132 + i22) = (0, 256, []) := rows_ok 132 8 (by decide) _ (by omega)
          refine mp_v (cx := []) (wr := []) hP hD hS hA [] [] rfl rfl rfl (by decide) (va_runV (As := [.ref r44]) (rest := []) F (N_DA_splitRow l g _ T s38 pl hO hU h0 r44 (132 + i22) k_h0 kr44 hn24) (cwV 1 hts (wg_app (wg_c kw_732 (wg_c kw_734 (wg_c ks_17 (wg_c kw_5 wg_n)))) kw_735) rfl rfl rfl (by decide +kernel) ⟨by decide, by decide⟩) (pn_W "LatticeKeys$Dsa" (en_ok g) (ci := 6) (kn := 39) (fl := [(3, 16), (3, 22), (3, 37), (3, 40), (3, 97), (3, 105), (3, 114), (3, 123), (3, 131), (3, 140), (3, 141), (3, 142), (3, 143), (3, 144), (3, 145), (3, 146), (3, 147)]) hK hO k_h0 rfl hP hD hS hA hE [] rfl rfl rfl) rfl rfl hl.1 rfl (lv_room (Nat.le_of_ble_eq_true rfl)) dDA_makePair_244 ⟨by omega, by omega⟩) (fun  u33 H locs hu33 hP hD hS => ?_)
          obtain ⟨s39, pl⟩ := u33
          obtain ⟨⟨eq33, hFc33, -⟩, hO⟩ := hu33
          have hO : okn g T s39 pl := hO
          have hP : va_P g.1 vcl ([] ++ pl) _ := hP
          have hD : va_D _ ([] ++ pl) := hD
          have hFc33 : frm (M_DA_splitRow (132 + i22)) s38 s39 := hFc33
          replace hR := bnd_step hR eq33
          have hF := frm_tr hF hFc33 (fun k hk => by unfold M_DA_splitRow at hk; unfold M_DA_makePair_2; omega)
          refine W.widen (k := 0) (n := 0) (by omega) (by omega) ?_
          refine lv_aload_n hx hb dDA_makePair_247 rfl (lv_at hl 2 rfl) ?_
          refine nw_get (C := "LatticeKeys$Dsa") (TT := T_DA) (N := 17) hx hb hts (wg_ft i_DA) hown hK hO k_h0 (kn := 39) (ci := 6) (fl := [(3, 16), (3, 22), (3, 37), (3, 40), (3, 97), (3, 105), (3, 114), (3, 123), (3, 131), (3, 140), (3, 141), (3, 142), (3, 143), (3, 144), (3, 145), (3, 146), (3, 147)]) rfl hP rfl 8 (by decide) (hts _ (wg_t kw_173)) (fun _ h9 => h9) (cd := (3, 131)) rfl dDA_makePair_248 (fun v49 hv49 => ?_)
          obtain ⟨r45, rfl, kr45⟩ := (show ∃ r : Nat, v49 = .ref r ∧ T r = some 131 from hv49)
          refine lv_iload hx hb dDA_makePair_251 (lv_at hl 0 rfl) ?_
          refine nw_aald3 hx hb hK hO kr45 (k := 131) (b := 132) rfl hP (by omega) (by omega) dDA_makePair_253 (fun r46 kr46 => ?_)
          have hn25 : nsp (132 + i22) = (0, 256, []) := rows_ok 132 8 (by decide) _ (by omega)
          refine lv_bipush (v := nI 10) hx hb dDA_makePair_254 (by decide) ?_
          refine lv_aload_n hx hb dDA_makePair_256 rfl (lv_at hl 4 rfl) ?_
          refine lv_bipush (v := nI 32) hx hb dDA_makePair_257 (by decide) ?_
          refine lv_sipush (v := nI 320) hx hb dDA_makePair_259 (by decide) ?_
          refine lv_iload hx hb dDA_makePair_262 (lv_at hl 0 rfl) ?_
          refine mi_imul hx hb dDA_makePair_264 ?_
          refine mi_iadd hx hb dDA_makePair_265 ?_
          refine mp_v (cx := []) (wr := []) hP hD hS hA [] [] rfl rfl rfl (by decide) (va_runS (As := [.ref r46, .int (nI 10), .ref pk, .int (nI (32 + (320 * i22)))]) (rest := []) F (N_BT_pack l g _ T s39 pl hO hU r46 pk (132 + i22) 10 pp 2592 (32 + (320 * i22)) kr46 hn25 k_pk n_pk (by omega) (by omega) (by omega)) (va_cwS 4 hts (wg_app (wg_c kw_702 (wg_c kw_645 (wg_c kw_22 wg_n))) kw_646) rfl rfl rfl (by decide +kernel) ⟨by decide, by decide⟩) (pp_S (en_ok g) hP hD hS hA hE [] rfl rfl) rfl rfl hl.1 rfl (lv_room (Nat.le_of_ble_eq_true rfl)) dDA_makePair_266 ⟨by omega, by omega⟩) (fun  u34 H locs hu34 hP hD hS => ?_)
          obtain ⟨s40, pl⟩ := u34
          obtain ⟨⟨eq34, hFc34, -⟩, hO⟩ := hu34
          have hO : okn g T s40 pl := hO
          have hP : va_P g.1 vcl ([] ++ pl) _ := hP
          have hD : va_D _ ([] ++ pl) := hD
          have hFc34 : frm (M_BT_pack pp) s39 s40 := hFc34
          replace hR := bnd_step hR eq34
          have hF := frm_tr hF hFc34 (fun k hk => by unfold M_BT_pack at hk; unfold M_DA_makePair_2; omega)
          refine W.widen (k := 0) (n := 0) (by omega) (by omega) ?_
          refine lv_aload_n hx hb dDA_makePair_269 rfl (lv_at hl 2 rfl) ?_
          refine nw_get (C := "LatticeKeys$Dsa") (TT := T_DA) (N := 17) hx hb hts (wg_ft i_DA) hown hK hO k_h0 (kn := 39) (ci := 6) (fl := [(3, 16), (3, 22), (3, 37), (3, 40), (3, 97), (3, 105), (3, 114), (3, 123), (3, 131), (3, 140), (3, 141), (3, 142), (3, 143), (3, 144), (3, 145), (3, 146), (3, 147)]) rfl hP rfl 10 (by decide) (hts _ (wg_t kw_175)) (fun _ h9 => h9) (cd := (3, 141)) rfl dDA_makePair_270 (fun v50 hv50 => ?_)
          obtain ⟨r47, rfl, kr47⟩ := (show ∃ r : Nat, v50 = .ref r ∧ T r = some 141 from hv50)
          refine lv_bipush (v := nI 13) hx hb dDA_makePair_273 (by decide) ?_
          refine lv_aload hx hb dDA_makePair_275 (lv_at hl 5 rfl) ?_
          refine lv_iload hx hb dDA_makePair_277 (lv_at hl 1 rfl) ?_
          refine lv_sipush (v := nI 416) hx hb dDA_makePair_279 (by decide) ?_
          refine lv_iload hx hb dDA_makePair_282 (lv_at hl 0 rfl) ?_
          refine mi_imul hx hb dDA_makePair_284 ?_
          refine mi_iadd hx hb dDA_makePair_285 ?_
          refine mp_v (cx := []) (wr := []) hP hD hS hA [] [] rfl rfl rfl (by decide) (va_runS (As := [.ref r47, .int (nI 13), .ref sk, .int (nI (1568 + (416 * i22)))]) (rest := []) F (N_BT_pack l g _ T s40 pl hO hU r47 sk 141 13 psk 4896 (1568 + (416 * i22)) kr47 rfl k_sk n_sk (by omega) (by omega) (by omega)) (va_cwS 4 hts (wg_app (wg_c kw_702 (wg_c kw_645 (wg_c kw_22 wg_n))) kw_646) rfl rfl rfl (by decide +kernel) ⟨by decide, by decide⟩) (pp_S (en_ok g) hP hD hS hA hE [] rfl rfl) rfl rfl hl.1 rfl (lv_room (Nat.le_of_ble_eq_true rfl)) dDA_makePair_286 ⟨by omega, by omega⟩) (fun  u35 H locs hu35 hP hD hS => ?_)
          obtain ⟨s41, pl⟩ := u35
          obtain ⟨⟨eq35, hFc35, -⟩, hO⟩ := hu35
          have hO : okn g T s41 pl := hO
          have hP : va_P g.1 vcl ([] ++ pl) _ := hP
          have hD : va_D _ ([] ++ pl) := hD
          have hFc35 : frm (M_BT_pack psk) s40 s41 := hFc35
          replace hR := bnd_step hR eq35
          have hF := frm_tr hF hFc35 (fun k hk => by unfold M_BT_pack at hk; unfold M_DA_makePair_2; omega)
          refine W.widen (k := 0) (n := 0) (by omega) (by omega) ?_
          refine mi_iinc (k := 0) (x := i22) (d := 1) (y := i22 + 1) (lv' := [(6, .int (nI (i22 + 1))), (5, .int (nI 1568)), (0, .ref h0), (1, .ref st), (3, .ref pk), (4, .ref sk)]) hx hb dDA_makePair_289 hl rfl (by decide) rfl (by decide) rfl (fun ls hl => ?_)
          refine lv_goto (tgt := 181) hx hb dDA_makePair_292 (by decide) ?_
          exact ih22 (i22 + 1) s41 pl ls H locs (by omega) hF hR (lv_sub hl [0, 1, 2, 3, 4, 5] rfl) hO hP hD hS
      exact lp22 8 0 s32 pl ls _ _ (by omega) hF hR (lv_sub hl [0, 1, 2, 3, 4, 5] rfl) hO hP hD hS
    | succ n21 ih21 =>
      intro i21 s32 pl ls H locs hm21 hF hR hl hO hP hD hS
      refine lv_iload hx hb dDA_makePair_126 (lv_at hl 0 rfl) ?_
      refine lv_aload_n hx hb dDA_makePair_128 rfl (lv_at hl 2 rfl) ?_
      refine nw_get (C := "LatticeKeys$DsaSet") (TT := T_DS) (N := 17) hx hb hts (wg_ft i_DS) hown hK hO k_st (kn := 11) (ci := 2) (fl := [(1, 8), (1, 7), (1, 2), (1, 3), (1, 60), (1, 64), (1, 20), (1, 524288), (1, 16), (1, 4), (1, 261888), (1, 75), (1, 120), (1, 2592), (1, 4896), (1, 4544), (1, 4627)]) rfl hP rfl 1 (by decide) (hts _ (wg_t kw_305)) (fun _ h9 => h9) (cd := (1, 7)) rfl dDA_makePair_129 (fun v51 hv51 => ?_)
      obtain rfl := (show v51 = .int (nI 7) from hv51)
      refine mi_ge (tgt := 155) hx hb dDA_makePair_132 (by decide) (by omega) (by omega) (fun h24 => absurd h24 (by omega)) (fun h24 => ?_)
      refine lv_aload_n hx hb dDA_makePair_135 rfl (lv_at hl 1 rfl) ?_
      refine nw_get (C := "LatticeKeys$Dsa") (TT := T_DA) (N := 17) hx hb hts (wg_ft i_DA) hown hK hO k_h0 (kn := 39) (ci := 6) (fl := [(3, 16), (3, 22), (3, 37), (3, 40), (3, 97), (3, 105), (3, 114), (3, 123), (3, 131), (3, 140), (3, 141), (3, 142), (3, 143), (3, 144), (3, 145), (3, 146), (3, 147)]) rfl hP rfl 1 (by decide) (hts _ (wg_t kw_166)) (fun _ h9 => h9) (cd := (3, 22)) rfl dDA_makePair_136 (fun v52 hv52 => ?_)
      obtain ⟨r48, rfl, kr48⟩ := (show ∃ r : Nat, v52 = .ref r ∧ T r = some 22 from hv52)
      refine lv_aload_n hx hb dDA_makePair_139 rfl (lv_at hl 1 rfl) ?_
      refine nw_get (C := "LatticeKeys$Dsa") (TT := T_DA) (N := 17) hx hb hts (wg_ft i_DA) hown hK hO k_h0 (kn := 39) (ci := 6) (fl := [(3, 16), (3, 22), (3, 37), (3, 40), (3, 97), (3, 105), (3, 114), (3, 123), (3, 131), (3, 140), (3, 141), (3, 142), (3, 143), (3, 144), (3, 145), (3, 146), (3, 147)]) rfl hP rfl 4 (by decide) (hts _ (wg_t kw_169)) (fun _ h9 => h9) (cd := (3, 97)) rfl dDA_makePair_140 (fun v53 hv53 => ?_)
      obtain ⟨r49, rfl, kr49⟩ := (show ∃ r : Nat, v53 = .ref r ∧ T r = some 97 from hv53)
      refine lv_iload hx hb dDA_makePair_143 (lv_at hl 0 rfl) ?_
      refine nw_aald3 hx hb hK hO kr49 (k := 97) (b := 98) rfl hP (by omega) (by omega) dDA_makePair_145 (fun r50 kr50 => ?_)
      have hn26 : nsp (98 + i21) = (0, 256, []) := rows_ok 98 7 (by decide) _ (by omega)
      refine mp_v (cx := []) (wr := []) hP hD hS hA [] [] rfl rfl rfl (by decide) (va_runV (As := [.ref r50]) (rest := []) F (N_RG_transform_8 l g _ T s32 pl hO hU r48 r50 (98 + i21) kr48 kr50 hn26) (cwV 1 hts (wg_app (wg_c kw_711 (wg_c kw_637 (wg_c kw_638 (wg_c kw_4 wg_n)))) kw_639) rfl rfl rfl (by decide +kernel) ⟨by decide, by decide⟩) (pn_W "LatticeKeys$Ring" (en_ok g) (ci := 4) (kn := 22) (fl := [(1, 8380417), (1, 8), (1, 8347681), (3, 23)]) hK hO kr48 rfl hP hD hS hA hE [] rfl rfl rfl) rfl rfl hl.1 rfl (lv_room (Nat.le_of_ble_eq_true rfl)) dDA_makePair_146 ⟨by omega, by omega⟩) (fun  u36 H locs hu36 hP hD hS => ?_)
      obtain ⟨s42, pl⟩ := u36
      obtain ⟨⟨eq36, hFc36, -⟩, hO⟩ := hu36
      have hO : okn g T s42 pl := hO
      have hP : va_P g.1 vcl ([] ++ pl) _ := hP
      have hD : va_D _ ([] ++ pl) := hD
      have hFc36 : frm (M_RG_transform_8 (98 + i21)) s32 s42 := hFc36
      replace hR := bnd_step hR eq36
      have hF := frm_tr hF hFc36 (fun k hk => by unfold M_RG_transform_8 at hk; unfold M_DA_makePair_2; omega)
      refine W.widen (k := 0) (n := 0) (by omega) (by omega) ?_
      refine mi_iinc (k := 0) (x := i21) (d := 1) (y := i21 + 1) (lv' := [(5, .int (nI (i21 + 1))), (0, .ref h0), (1, .ref st), (3, .ref pk), (4, .ref sk)]) hx hb dDA_makePair_149 hl rfl (by decide) rfl (by decide) rfl (fun ls hl => ?_)
      refine lv_goto (tgt := 126) hx hb dDA_makePair_152 (by decide) ?_
      exact ih21 (i21 + 1) s42 pl ls H locs (by omega) hF hR (lv_sub hl [0, 1, 2, 3, 4] rfl) hO hP hD hS
  exact lp21 7 0 s31 pl ls _ _ (by omega) hF hR (lv_sub hl [0, 1, 2, 4, 5] rfl) hO hP hD hS
