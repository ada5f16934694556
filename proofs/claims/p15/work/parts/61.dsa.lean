abbrev c_DA_digestOf : ByteArray := prog_3_method_8_code
abbrev y_DA_digestOf : MethodName := ⟨"LatticeKeys$Dsa", "digestOf", "([B)V"⟩
abbrev w_DA_digestOf : List Cond := Cond.code y_DA_digestOf c_DA_digestOf 2 none :: WG
theorem dDA_digestOf_0 : decode c_DA_digestOf 0 = .ok (.aload_n 0, 1) := by decide +kernel
theorem dDA_digestOf_1 : decode c_DA_digestOf 1 = .ok (.getfield 10, 3) := by decide +kernel
theorem dDA_digestOf_4 : decode c_DA_digestOf 4 = .ok (.iconst 3, 1) := by decide +kernel
theorem dDA_digestOf_5 : decode c_DA_digestOf 5 = .ok (.invokevirtual 79, 3) := by decide +kernel
theorem dDA_digestOf_8 : decode c_DA_digestOf 8 = .ok (.aload_n 0, 1) := by decide +kernel
theorem dDA_digestOf_9 : decode c_DA_digestOf 9 = .ok (.getfield 10, 3) := by decide +kernel
theorem dDA_digestOf_12 : decode c_DA_digestOf 12 = .ok (.aload_n 1, 1) := by decide +kernel
theorem dDA_digestOf_13 : decode c_DA_digestOf 13 = .ok (.iconst 0, 1) := by decide +kernel
theorem dDA_digestOf_14 : decode c_DA_digestOf 14 = .ok (.aload_n 1, 1) := by decide +kernel
theorem dDA_digestOf_15 : decode c_DA_digestOf 15 = .ok (.arraylength, 1) := by decide +kernel
theorem dDA_digestOf_16 : decode c_DA_digestOf 16 = .ok (.invokevirtual 83, 3) := by decide +kernel
theorem dDA_digestOf_19 : decode c_DA_digestOf 19 = .ok (.aload_n 0, 1) := by decide +kernel
theorem dDA_digestOf_20 : decode c_DA_digestOf 20 = .ok (.getfield 10, 3) := by decide +kernel
theorem dDA_digestOf_23 : decode c_DA_digestOf 23 = .ok (.invokevirtual 99, 3) := by decide +kernel
theorem dDA_digestOf_26 : decode c_DA_digestOf 26 = .ok (.aload_n 0, 1) := by decide +kernel
theorem dDA_digestOf_27 : decode c_DA_digestOf 27 = .ok (.getfield 10, 3) := by decide +kernel
theorem dDA_digestOf_30 : decode c_DA_digestOf 30 = .ok (.aload_n 0, 1) := by decide +kernel
theorem dDA_digestOf_31 : decode c_DA_digestOf 31 = .ok (.getfield 64, 3) := by decide +kernel
theorem dDA_digestOf_34 : decode c_DA_digestOf 34 = .ok (.iconst 0, 1) := by decide +kernel
theorem dDA_digestOf_35 : decode c_DA_digestOf 35 = .ok (.bipush 64, 2) := by decide +kernel
theorem dDA_digestOf_37 : decode c_DA_digestOf 37 = .ok (.invokevirtual 102, 3) := by decide +kernel
theorem dDA_digestOf_40 : decode c_DA_digestOf 40 = .ok (.return_, 1) := by decide +kernel
abbrev c_DA_digestMessage : ByteArray := prog_3_method_9_code
abbrev y_DA_digestMessage : MethodName := ⟨"LatticeKeys$Dsa", "digestMessage", "([BIII)V"⟩
abbrev w_DA_digestMessage : List Cond := Cond.code y_DA_digestMessage c_DA_digestMessage 5 none :: WG
theorem dDA_digestMessage_0 : decode c_DA_digestMessage 0 = .ok (.aload_n 0, 1) := by decide +kernel
theorem dDA_digestMessage_1 : decode c_DA_digestMessage 1 = .ok (.getfield 10, 3) := by decide +kernel
theorem dDA_digestMessage_4 : decode c_DA_digestMessage 4 = .ok (.iconst 3, 1) := by decide +kernel
theorem dDA_digestMessage_5 : decode c_DA_digestMessage 5 = .ok (.invokevirtual 79, 3) := by decide +kernel
theorem dDA_digestMessage_8 : decode c_DA_digestMessage 8 = .ok (.aload_n 0, 1) := by decide +kernel
theorem dDA_digestMessage_9 : decode c_DA_digestMessage 9 = .ok (.getfield 10, 3) := by decide +kernel
theorem dDA_digestMessage_12 : decode c_DA_digestMessage 12 = .ok (.aload_n 0, 1) := by decide +kernel
theorem dDA_digestMessage_13 : decode c_DA_digestMessage 13 = .ok (.getfield 64, 3) := by decide +kernel
theorem dDA_digestMessage_16 : decode c_DA_digestMessage 16 = .ok (.iconst 0, 1) := by decide +kernel
theorem dDA_digestMessage_17 : decode c_DA_digestMessage 17 = .ok (.bipush 64, 2) := by decide +kernel
theorem dDA_digestMessage_19 : decode c_DA_digestMessage 19 = .ok (.invokevirtual 83, 3) := by decide +kernel
theorem dDA_digestMessage_22 : decode c_DA_digestMessage 22 = .ok (.aload_n 0, 1) := by decide +kernel
theorem dDA_digestMessage_23 : decode c_DA_digestMessage 23 = .ok (.getfield 10, 3) := by decide +kernel
theorem dDA_digestMessage_26 : decode c_DA_digestMessage 26 = .ok (.iconst 0, 1) := by decide +kernel
theorem dDA_digestMessage_27 : decode c_DA_digestMessage 27 = .ok (.invokevirtual 93, 3) := by decide +kernel
theorem dDA_digestMessage_30 : decode c_DA_digestMessage 30 = .ok (.aload_n 0, 1) := by decide +kernel
theorem dDA_digestMessage_31 : decode c_DA_digestMessage 31 = .ok (.getfield 10, 3) := by decide +kernel
theorem dDA_digestMessage_34 : decode c_DA_digestMessage 34 = .ok (.iload 4, 2) := by decide +kernel
theorem dDA_digestMessage_36 : decode c_DA_digestMessage 36 = .ok (.invokevirtual 93, 3) := by decide +kernel
theorem dDA_digestMessage_39 : decode c_DA_digestMessage 39 = .ok (.aload_n 0, 1) := by decide +kernel
theorem dDA_digestMessage_40 : decode c_DA_digestMessage 40 = .ok (.getfield 10, 3) := by decide +kernel
theorem dDA_digestMessage_43 : decode c_DA_digestMessage 43 = .ok (.aload_n 1, 1) := by decide +kernel
theorem dDA_digestMessage_44 : decode c_DA_digestMessage 44 = .ok (.iload_n 2, 1) := by decide +kernel
theorem dDA_digestMessage_45 : decode c_DA_digestMessage 45 = .ok (.iload_n 3, 1) := by decide +kernel
theorem dDA_digestMessage_46 : decode c_DA_digestMessage 46 = .ok (.iload_n 2, 1) := by decide +kernel
theorem dDA_digestMessage_47 : decode c_DA_digestMessage 47 = .ok (.isub, 1) := by decide +kernel
theorem dDA_digestMessage_48 : decode c_DA_digestMessage 48 = .ok (.invokevirtual 83, 3) := by decide +kernel
theorem dDA_digestMessage_51 : decode c_DA_digestMessage 51 = .ok (.aload_n 0, 1) := by decide +kernel
theorem dDA_digestMessage_52 : decode c_DA_digestMessage 52 = .ok (.getfield 10, 3) := by decide +kernel
theorem dDA_digestMessage_55 : decode c_DA_digestMessage 55 = .ok (.invokevirtual 99, 3) := by decide +kernel
theorem dDA_digestMessage_58 : decode c_DA_digestMessage 58 = .ok (.aload_n 0, 1) := by decide +kernel
theorem dDA_digestMessage_59 : decode c_DA_digestMessage 59 = .ok (.getfield 10, 3) := by decide +kernel
theorem dDA_digestMessage_62 : decode c_DA_digestMessage 62 = .ok (.aload_n 0, 1) := by decide +kernel
theorem dDA_digestMessage_63 : decode c_DA_digestMessage 63 = .ok (.getfield 64, 3) := by decide +kernel
theorem dDA_digestMessage_66 : decode c_DA_digestMessage 66 = .ok (.iconst 0, 1) := by decide +kernel
theorem dDA_digestMessage_67 : decode c_DA_digestMessage 67 = .ok (.bipush 64, 2) := by decide +kernel
theorem dDA_digestMessage_69 : decode c_DA_digestMessage 69 = .ok (.invokevirtual 102, 3) := by decide +kernel
theorem dDA_digestMessage_72 : decode c_DA_digestMessage 72 = .ok (.return_, 1) := by decide +kernel
abbrev c_DA_readFlipped : ByteArray := prog_3_method_7_code
abbrev y_DA_readFlipped : MethodName := ⟨"LatticeKeys$Dsa", "readFlipped", "([III[BI)V"⟩
abbrev w_DA_readFlipped : List Cond := Cond.code y_DA_readFlipped c_DA_readFlipped 6 none :: WG
theorem dDA_readFlipped_0 : decode c_DA_readFlipped 0 = .ok (.aload_n 1, 1) := by decide +kernel
theorem dDA_readFlipped_1 : decode c_DA_readFlipped 1 = .ok (.iload_n 2, 1) := by decide +kernel
theorem dDA_readFlipped_2 : decode c_DA_readFlipped 2 = .ok (.aload 4, 2) := by decide +kernel
theorem dDA_readFlipped_4 : decode c_DA_readFlipped 4 = .ok (.iload 5, 2) := by decide +kernel
theorem dDA_readFlipped_6 : decode c_DA_readFlipped 6 = .ok (.invokestatic 189, 3) := by decide +kernel
theorem dDA_readFlipped_9 : decode c_DA_readFlipped 9 = .ok (.aload_n 0, 1) := by decide +kernel
theorem dDA_readFlipped_10 : decode c_DA_readFlipped 10 = .ok (.getfield 22, 3) := by decide +kernel
theorem dDA_readFlipped_13 : decode c_DA_readFlipped 13 = .ok (.aload_n 1, 1) := by decide +kernel
theorem dDA_readFlipped_14 : decode c_DA_readFlipped 14 = .ok (.iload_n 3, 1) := by decide +kernel
theorem dDA_readFlipped_15 : decode c_DA_readFlipped 15 = .ok (.aload_n 1, 1) := by decide +kernel
theorem dDA_readFlipped_16 : decode c_DA_readFlipped 16 = .ok (.invokevirtual 157, 3) := by decide +kernel
theorem dDA_readFlipped_19 : decode c_DA_readFlipped 19 = .ok (.return_, 1) := by decide +kernel
abbrev c_DA_splitRow : ByteArray := prog_3_method_4_code
abbrev y_DA_splitRow : MethodName := ⟨"LatticeKeys$Dsa", "splitRow", "([I)V"⟩
abbrev w_DA_splitRow : List Cond := Cond.code y_DA_splitRow c_DA_splitRow 5 none :: WG
theorem dDA_splitRow_0 : decode c_DA_splitRow 0 = .ok (.sipush 4096, 3) := by decide +kernel
theorem dDA_splitRow_3 : decode c_DA_splitRow 3 = .ok (.istore_n 2, 1) := by decide +kernel
theorem dDA_splitRow_4 : decode c_DA_splitRow 4 = .ok (.iconst 0, 1) := by decide +kernel
theorem dDA_splitRow_5 : decode c_DA_splitRow 5 = .ok (.istore_n 3, 1) := by decide +kernel
theorem dDA_splitRow_6 : decode c_DA_splitRow 6 = .ok (.iload_n 3, 1) := by decide +kernel
theorem dDA_splitRow_7 : decode c_DA_splitRow 7 = .ok (.sipush 256, 3) := by decide +kernel
theorem dDA_splitRow_10 : decode c_DA_splitRow 10 = .ok (.if_icmp .ge 61, 3) := by decide +kernel
theorem dDA_splitRow_13 : decode c_DA_splitRow 13 = .ok (.aload_n 1, 1) := by decide +kernel
theorem dDA_splitRow_14 : decode c_DA_splitRow 14 = .ok (.iload_n 3, 1) := by decide +kernel
theorem dDA_splitRow_15 : decode c_DA_splitRow 15 = .ok (.iaload, 1) := by decide +kernel
theorem dDA_splitRow_16 : decode c_DA_splitRow 16 = .ok (.iconst 2, 1) := by decide +kernel
theorem dDA_splitRow_17 : decode c_DA_splitRow 17 = .ok (.iload_n 2, 1) := by decide +kernel
theorem dDA_splitRow_18 : decode c_DA_splitRow 18 = .ok (.imul, 1) := by decide +kernel
theorem dDA_splitRow_19 : decode c_DA_splitRow 19 = .ok (.iconst 1, 1) := by decide +kernel
theorem dDA_splitRow_20 : decode c_DA_splitRow 20 = .ok (.isub, 1) := by decide +kernel
theorem dDA_splitRow_21 : decode c_DA_splitRow 21 = .ok (.iand, 1) := by decide +kernel
theorem dDA_splitRow_22 : decode c_DA_splitRow 22 = .ok (.istore 4, 2) := by decide +kernel
theorem dDA_splitRow_24 : decode c_DA_splitRow 24 = .ok (.iload 4, 2) := by decide +kernel
theorem dDA_splitRow_26 : decode c_DA_splitRow 26 = .ok (.iload_n 2, 1) := by decide +kernel
theorem dDA_splitRow_27 : decode c_DA_splitRow 27 = .ok (.if_icmp .le 12, 3) := by decide +kernel
theorem dDA_splitRow_30 : decode c_DA_splitRow 30 = .ok (.iload 4, 2) := by decide +kernel
theorem dDA_splitRow_32 : decode c_DA_splitRow 32 = .ok (.iconst 2, 1) := by decide +kernel
theorem dDA_splitRow_33 : decode c_DA_splitRow 33 = .ok (.iload_n 2, 1) := by decide +kernel
theorem dDA_splitRow_34 : decode c_DA_splitRow 34 = .ok (.imul, 1) := by decide +kernel
theorem dDA_splitRow_35 : decode c_DA_splitRow 35 = .ok (.isub, 1) := by decide +kernel
theorem dDA_splitRow_36 : decode c_DA_splitRow 36 = .ok (.goto 5, 3) := by decide +kernel
theorem dDA_splitRow_39 : decode c_DA_splitRow 39 = .ok (.iload 4, 2) := by decide +kernel
theorem dDA_splitRow_41 : decode c_DA_splitRow 41 = .ok (.istore 4, 2) := by decide +kernel
theorem dDA_splitRow_43 : decode c_DA_splitRow 43 = .ok (.aload_n 0, 1) := by decide +kernel
theorem dDA_splitRow_44 : decode c_DA_splitRow 44 = .ok (.getfield 57, 3) := by decide +kernel
theorem dDA_splitRow_47 : decode c_DA_splitRow 47 = .ok (.iload_n 3, 1) := by decide +kernel
theorem dDA_splitRow_48 : decode c_DA_splitRow 48 = .ok (.iload_n 2, 1) := by decide +kernel
theorem dDA_splitRow_49 : decode c_DA_splitRow 49 = .ok (.iload 4, 2) := by decide +kernel
theorem dDA_splitRow_51 : decode c_DA_splitRow 51 = .ok (.isub, 1) := by decide +kernel
theorem dDA_splitRow_52 : decode c_DA_splitRow 52 = .ok (.iastore, 1) := by decide +kernel
theorem dDA_splitRow_53 : decode c_DA_splitRow 53 = .ok (.aload_n 1, 1) := by decide +kernel
theorem dDA_splitRow_54 : decode c_DA_splitRow 54 = .ok (.iload_n 3, 1) := by decide +kernel
theorem dDA_splitRow_55 : decode c_DA_splitRow 55 = .ok (.aload_n 1, 1) := by decide +kernel
theorem dDA_splitRow_56 : decode c_DA_splitRow 56 = .ok (.iload_n 3, 1) := by decide +kernel
theorem dDA_splitRow_57 : decode c_DA_splitRow 57 = .ok (.iaload, 1) := by decide +kernel
theorem dDA_splitRow_58 : decode c_DA_splitRow 58 = .ok (.iload 4, 2) := by decide +kernel
theorem dDA_splitRow_60 : decode c_DA_splitRow 60 = .ok (.isub, 1) := by decide +kernel
theorem dDA_splitRow_61 : decode c_DA_splitRow 61 = .ok (.bipush 13, 2) := by decide +kernel
theorem dDA_splitRow_63 : decode c_DA_splitRow 63 = .ok (.ishr, 1) := by decide +kernel
theorem dDA_splitRow_64 : decode c_DA_splitRow 64 = .ok (.iastore, 1) := by decide +kernel
theorem dDA_splitRow_65 : decode c_DA_splitRow 65 = .ok (.iinc 3 1, 3) := by decide +kernel
theorem dDA_splitRow_68 : decode c_DA_splitRow 68 = .ok (.goto (-62), 3) := by decide +kernel
theorem dDA_splitRow_71 : decode c_DA_splitRow 71 = .ok (.return_, 1) := by decide +kernel
abbrev c_DA_multiplyBall : ByteArray := prog_3_method_14_code
abbrev y_DA_multiplyBall : MethodName := ⟨"LatticeKeys$Dsa", "multiplyBall", "([I)V"⟩
abbrev w_DA_multiplyBall : List Cond := Cond.code y_DA_multiplyBall c_DA_multiplyBall 2 none :: WG
theorem dDA_multiplyBall_0 : decode c_DA_multiplyBall 0 = .ok (.aload_n 0, 1) := by decide +kernel
theorem dDA_multiplyBall_1 : decode c_DA_multiplyBall 1 = .ok (.getfield 57, 3) := by decide +kernel
theorem dDA_multiplyBall_4 : decode c_DA_multiplyBall 4 = .ok (.iconst 0, 1) := by decide +kernel
theorem dDA_multiplyBall_5 : decode c_DA_multiplyBall 5 = .ok (.invokestatic 192, 3) := by decide +kernel
theorem dDA_multiplyBall_8 : decode c_DA_multiplyBall 8 = .ok (.aload_n 0, 1) := by decide +kernel
theorem dDA_multiplyBall_9 : decode c_DA_multiplyBall 9 = .ok (.getfield 22, 3) := by decide +kernel
theorem dDA_multiplyBall_12 : decode c_DA_multiplyBall 12 = .ok (.aload_n 0, 1) := by decide +kernel
theorem dDA_multiplyBall_13 : decode c_DA_multiplyBall 13 = .ok (.getfield 57, 3) := by decide +kernel
theorem dDA_multiplyBall_16 : decode c_DA_multiplyBall 16 = .ok (.aload_n 0, 1) := by decide +kernel
theorem dDA_multiplyBall_17 : decode c_DA_multiplyBall 17 = .ok (.getfield 53, 3) := by decide +kernel
theorem dDA_multiplyBall_20 : decode c_DA_multiplyBall 20 = .ok (.aload_n 1, 1) := by decide +kernel
theorem dDA_multiplyBall_21 : decode c_DA_multiplyBall 21 = .ok (.invokevirtual 205, 3) := by decide +kernel
theorem dDA_multiplyBall_24 : decode c_DA_multiplyBall 24 = .ok (.aload_n 0, 1) := by decide +kernel
theorem dDA_multiplyBall_25 : decode c_DA_multiplyBall 25 = .ok (.getfield 22, 3) := by decide +kernel
theorem dDA_multiplyBall_28 : decode c_DA_multiplyBall 28 = .ok (.aload_n 0, 1) := by decide +kernel
theorem dDA_multiplyBall_29 : decode c_DA_multiplyBall 29 = .ok (.getfield 57, 3) := by decide +kernel
theorem dDA_multiplyBall_32 : decode c_DA_multiplyBall 32 = .ok (.invokevirtual 130, 3) := by decide +kernel
theorem dDA_multiplyBall_35 : decode c_DA_multiplyBall 35 = .ok (.return_, 1) := by decide +kernel
abbrev c_DA_multiplyRow : ByteArray := prog_3_method_13_code
abbrev y_DA_multiplyRow : MethodName := ⟨"LatticeKeys$Dsa", "multiplyRow", "(LLatticeKeys$DsaSet;I[[I)V"⟩
abbrev w_DA_multiplyRow : List Cond := Cond.code y_DA_multiplyRow c_DA_multiplyRow 5 none :: WG
theorem dDA_multiplyRow_0 : decode c_DA_multiplyRow 0 = .ok (.aload_n 0, 1) := by decide +kernel
theorem dDA_multiplyRow_1 : decode c_DA_multiplyRow 1 = .ok (.getfield 50, 3) := by decide +kernel
theorem dDA_multiplyRow_4 : decode c_DA_multiplyRow 4 = .ok (.iload_n 2, 1) := by decide +kernel
theorem dDA_multiplyRow_5 : decode c_DA_multiplyRow 5 = .ok (.aaload, 1) := by decide +kernel
theorem dDA_multiplyRow_6 : decode c_DA_multiplyRow 6 = .ok (.iconst 0, 1) := by decide +kernel
theorem dDA_multiplyRow_7 : decode c_DA_multiplyRow 7 = .ok (.invokestatic 192, 3) := by decide +kernel
theorem dDA_multiplyRow_10 : decode c_DA_multiplyRow 10 = .ok (.iconst 0, 1) := by decide +kernel
theorem dDA_multiplyRow_11 : decode c_DA_multiplyRow 11 = .ok (.istore 4, 2) := by decide +kernel
theorem dDA_multiplyRow_13 : decode c_DA_multiplyRow 13 = .ok (.iload 4, 2) := by decide +kernel
theorem dDA_multiplyRow_15 : decode c_DA_multiplyRow 15 = .ok (.aload_n 1, 1) := by decide +kernel
theorem dDA_multiplyRow_16 : decode c_DA_multiplyRow 16 = .ok (.getfield 96, 3) := by decide +kernel
theorem dDA_multiplyRow_19 : decode c_DA_multiplyRow 19 = .ok (.if_icmp .ge 40, 3) := by decide +kernel
theorem dDA_multiplyRow_22 : decode c_DA_multiplyRow 22 = .ok (.aload_n 0, 1) := by decide +kernel
theorem dDA_multiplyRow_23 : decode c_DA_multiplyRow 23 = .ok (.getfield 22, 3) := by decide +kernel
theorem dDA_multiplyRow_26 : decode c_DA_multiplyRow 26 = .ok (.aload_n 0, 1) := by decide +kernel
theorem dDA_multiplyRow_27 : decode c_DA_multiplyRow 27 = .ok (.getfield 50, 3) := by decide +kernel
theorem dDA_multiplyRow_30 : decode c_DA_multiplyRow 30 = .ok (.iload_n 2, 1) := by decide +kernel
theorem dDA_multiplyRow_31 : decode c_DA_multiplyRow 31 = .ok (.aaload, 1) := by decide +kernel
theorem dDA_multiplyRow_32 : decode c_DA_multiplyRow 32 = .ok (.aload_n 0, 1) := by decide +kernel
theorem dDA_multiplyRow_33 : decode c_DA_multiplyRow 33 = .ok (.getfield 35, 3) := by decide +kernel
theorem dDA_multiplyRow_36 : decode c_DA_multiplyRow 36 = .ok (.aload_n 1, 1) := by decide +kernel
theorem dDA_multiplyRow_37 : decode c_DA_multiplyRow 37 = .ok (.getfield 96, 3) := by decide +kernel
theorem dDA_multiplyRow_40 : decode c_DA_multiplyRow 40 = .ok (.iload_n 2, 1) := by decide +kernel
theorem dDA_multiplyRow_41 : decode c_DA_multiplyRow 41 = .ok (.imul, 1) := by decide +kernel
theorem dDA_multiplyRow_42 : decode c_DA_multiplyRow 42 = .ok (.iload 4, 2) := by decide +kernel
theorem dDA_multiplyRow_44 : decode c_DA_multiplyRow 44 = .ok (.iadd, 1) := by decide +kernel
theorem dDA_multiplyRow_45 : decode c_DA_multiplyRow 45 = .ok (.aaload, 1) := by decide +kernel
theorem dDA_multiplyRow_46 : decode c_DA_multiplyRow 46 = .ok (.aload_n 3, 1) := by decide +kernel
theorem dDA_multiplyRow_47 : decode c_DA_multiplyRow 47 = .ok (.iload 4, 2) := by decide +kernel
theorem dDA_multiplyRow_49 : decode c_DA_multiplyRow 49 = .ok (.aaload, 1) := by decide +kernel
theorem dDA_multiplyRow_50 : decode c_DA_multiplyRow 50 = .ok (.invokevirtual 205, 3) := by decide +kernel
theorem dDA_multiplyRow_53 : decode c_DA_multiplyRow 53 = .ok (.iinc 4 1, 3) := by decide +kernel
theorem dDA_multiplyRow_56 : decode c_DA_multiplyRow 56 = .ok (.goto (-43), 3) := by decide +kernel
theorem dDA_multiplyRow_59 : decode c_DA_multiplyRow 59 = .ok (.return_, 1) := by decide +kernel
abbrev c_DA_readSecret : ByteArray := prog_3_method_6_code
abbrev y_DA_readSecret : MethodName := ⟨"LatticeKeys$Dsa", "readSecret", "(LLatticeKeys$DsaSet;[B)V"⟩
abbrev w_DA_readSecret : List Cond := Cond.code y_DA_readSecret c_DA_readSecret 5 none :: WG
theorem dDA_readSecret_0 : decode c_DA_readSecret 0 = .ok (.aload_n 0, 1) := by decide +kernel
theorem dDA_readSecret_1 : decode c_DA_readSecret 1 = .ok (.getfield 29, 3) := by decide +kernel
theorem dDA_readSecret_4 : decode c_DA_readSecret 4 = .ok (.aload_n 1, 1) := by decide +kernel
theorem dDA_readSecret_5 : decode c_DA_readSecret 5 = .ok (.aload_n 2, 1) := by decide +kernel
theorem dDA_readSecret_6 : decode c_DA_readSecret 6 = .ok (.aload_n 0, 1) := by decide +kernel
theorem dDA_readSecret_7 : decode c_DA_readSecret 7 = .ok (.getfield 35, 3) := by decide +kernel
theorem dDA_readSecret_10 : decode c_DA_readSecret 10 = .ok (.invokevirtual 115, 3) := by decide +kernel
theorem dDA_readSecret_13 : decode c_DA_readSecret 13 = .ok (.sipush 128, 3) := by decide +kernel
theorem dDA_readSecret_16 : decode c_DA_readSecret 16 = .ok (.istore_n 3, 1) := by decide +kernel
theorem dDA_readSecret_17 : decode c_DA_readSecret 17 = .ok (.iconst 0, 1) := by decide +kernel
theorem dDA_readSecret_18 : decode c_DA_readSecret 18 = .ok (.istore 4, 2) := by decide +kernel
theorem dDA_readSecret_20 : decode c_DA_readSecret 20 = .ok (.iload 4, 2) := by decide +kernel
theorem dDA_readSecret_22 : decode c_DA_readSecret 22 = .ok (.aload_n 1, 1) := by decide +kernel
theorem dDA_readSecret_23 : decode c_DA_readSecret 23 = .ok (.getfield 96, 3) := by decide +kernel
theorem dDA_readSecret_26 : decode c_DA_readSecret 26 = .ok (.if_icmp .ge 54, 3) := by decide +kernel
theorem dDA_readSecret_29 : decode c_DA_readSecret 29 = .ok (.aload_n 0, 1) := by decide +kernel
theorem dDA_readSecret_30 : decode c_DA_readSecret 30 = .ok (.aload_n 0, 1) := by decide +kernel
theorem dDA_readSecret_31 : decode c_DA_readSecret 31 = .ok (.getfield 38, 3) := by decide +kernel
theorem dDA_readSecret_34 : decode c_DA_readSecret 34 = .ok (.iload 4, 2) := by decide +kernel
theorem dDA_readSecret_36 : decode c_DA_readSecret 36 = .ok (.aaload, 1) := by decide +kernel
theorem dDA_readSecret_37 : decode c_DA_readSecret 37 = .ok (.aload_n 1, 1) := by decide +kernel
theorem dDA_readSecret_38 : decode c_DA_readSecret 38 = .ok (.getfield 123, 3) := by decide +kernel
theorem dDA_readSecret_41 : decode c_DA_readSecret 41 = .ok (.aload_n 1, 1) := by decide +kernel
theorem dDA_readSecret_42 : decode c_DA_readSecret 42 = .ok (.getfield 154, 3) := by decide +kernel
theorem dDA_readSecret_45 : decode c_DA_readSecret 45 = .ok (.aload_n 2, 1) := by decide +kernel
theorem dDA_readSecret_46 : decode c_DA_readSecret 46 = .ok (.iload_n 3, 1) := by decide +kernel
theorem dDA_readSecret_47 : decode c_DA_readSecret 47 = .ok (.invokevirtual 185, 3) := by decide +kernel
theorem dDA_readSecret_50 : decode c_DA_readSecret 50 = .ok (.aload_n 0, 1) := by decide +kernel
theorem dDA_readSecret_51 : decode c_DA_readSecret 51 = .ok (.getfield 22, 3) := by decide +kernel
theorem dDA_readSecret_54 : decode c_DA_readSecret 54 = .ok (.aload_n 0, 1) := by decide +kernel
theorem dDA_readSecret_55 : decode c_DA_readSecret 55 = .ok (.getfield 38, 3) := by decide +kernel
theorem dDA_readSecret_58 : decode c_DA_readSecret 58 = .ok (.iload 4, 2) := by decide +kernel
theorem dDA_readSecret_60 : decode c_DA_readSecret 60 = .ok (.aaload, 1) := by decide +kernel
theorem dDA_readSecret_61 : decode c_DA_readSecret 61 = .ok (.invokevirtual 119, 3) := by decide +kernel
theorem dDA_readSecret_64 : decode c_DA_readSecret 64 = .ok (.iload_n 3, 1) := by decide +kernel
theorem dDA_readSecret_65 : decode c_DA_readSecret 65 = .ok (.bipush 32, 2) := by decide +kernel
theorem dDA_readSecret_67 : decode c_DA_readSecret 67 = .ok (.aload_n 1, 1) := by decide +kernel
theorem dDA_readSecret_68 : decode c_DA_readSecret 68 = .ok (.getfield 123, 3) := by decide +kernel
theorem dDA_readSecret_71 : decode c_DA_readSecret 71 = .ok (.imul, 1) := by decide +kernel
theorem dDA_readSecret_72 : decode c_DA_readSecret 72 = .ok (.iadd, 1) := by decide +kernel
theorem dDA_readSecret_73 : decode c_DA_readSecret 73 = .ok (.istore_n 3, 1) := by decide +kernel
theorem dDA_readSecret_74 : decode c_DA_readSecret 74 = .ok (.iinc 4 1, 3) := by decide +kernel
theorem dDA_readSecret_77 : decode c_DA_readSecret 77 = .ok (.goto (-57), 3) := by decide +kernel
theorem dDA_readSecret_80 : decode c_DA_readSecret 80 = .ok (.iconst 0, 1) := by decide +kernel
theorem dDA_readSecret_81 : decode c_DA_readSecret 81 = .ok (.istore 4, 2) := by decide +kernel
theorem dDA_readSecret_83 : decode c_DA_readSecret 83 = .ok (.iload 4, 2) := by decide +kernel
theorem dDA_readSecret_85 : decode c_DA_readSecret 85 = .ok (.aload_n 1, 1) := by decide +kernel
theorem dDA_readSecret_86 : decode c_DA_readSecret 86 = .ok (.getfield 87, 3) := by decide +kernel
theorem dDA_readSecret_89 : decode c_DA_readSecret 89 = .ok (.if_icmp .ge 54, 3) := by decide +kernel
theorem dDA_readSecret_92 : decode c_DA_readSecret 92 = .ok (.aload_n 0, 1) := by decide +kernel
theorem dDA_readSecret_93 : decode c_DA_readSecret 93 = .ok (.aload_n 0, 1) := by decide +kernel
theorem dDA_readSecret_94 : decode c_DA_readSecret 94 = .ok (.getfield 41, 3) := by decide +kernel
theorem dDA_readSecret_97 : decode c_DA_readSecret 97 = .ok (.iload 4, 2) := by decide +kernel
theorem dDA_readSecret_99 : decode c_DA_readSecret 99 = .ok (.aaload, 1) := by decide +kernel
theorem dDA_readSecret_100 : decode c_DA_readSecret 100 = .ok (.aload_n 1, 1) := by decide +kernel
theorem dDA_readSecret_101 : decode c_DA_readSecret 101 = .ok (.getfield 123, 3) := by decide +kernel
theorem dDA_readSecret_104 : decode c_DA_readSecret 104 = .ok (.aload_n 1, 1) := by decide +kernel
theorem dDA_readSecret_105 : decode c_DA_readSecret 105 = .ok (.getfield 154, 3) := by decide +kernel
theorem dDA_readSecret_108 : decode c_DA_readSecret 108 = .ok (.aload_n 2, 1) := by decide +kernel
theorem dDA_readSecret_109 : decode c_DA_readSecret 109 = .ok (.iload_n 3, 1) := by decide +kernel
theorem dDA_readSecret_110 : decode c_DA_readSecret 110 = .ok (.invokevirtual 185, 3) := by decide +kernel
theorem dDA_readSecret_113 : decode c_DA_readSecret 113 = .ok (.aload_n 0, 1) := by decide +kernel
theorem dDA_readSecret_114 : decode c_DA_readSecret 114 = .ok (.getfield 22, 3) := by decide +kernel
theorem dDA_readSecret_117 : decode c_DA_readSecret 117 = .ok (.aload_n 0, 1) := by decide +kernel
theorem dDA_readSecret_118 : decode c_DA_readSecret 118 = .ok (.getfield 41, 3) := by decide +kernel
theorem dDA_readSecret_121 : decode c_DA_readSecret 121 = .ok (.iload 4, 2) := by decide +kernel
theorem dDA_readSecret_123 : decode c_DA_readSecret 123 = .ok (.aaload, 1) := by decide +kernel
theorem dDA_readSecret_124 : decode c_DA_readSecret 124 = .ok (.invokevirtual 119, 3) := by decide +kernel
theorem dDA_readSecret_127 : decode c_DA_readSecret 127 = .ok (.iload_n 3, 1) := by decide +kernel
theorem dDA_readSecret_128 : decode c_DA_readSecret 128 = .ok (.bipush 32, 2) := by decide +kernel
theorem dDA_readSecret_130 : decode c_DA_readSecret 130 = .ok (.aload_n 1, 1) := by decide +kernel
theorem dDA_readSecret_131 : decode c_DA_readSecret 131 = .ok (.getfield 123, 3) := by decide +kernel
theorem dDA_readSecret_134 : decode c_DA_readSecret 134 = .ok (.imul, 1) := by decide +kernel
theorem dDA_readSecret_135 : decode c_DA_readSecret 135 = .ok (.iadd, 1) := by decide +kernel
theorem dDA_readSecret_136 : decode c_DA_readSecret 136 = .ok (.istore_n 3, 1) := by decide +kernel
theorem dDA_readSecret_137 : decode c_DA_readSecret 137 = .ok (.iinc 4 1, 3) := by decide +kernel
theorem dDA_readSecret_140 : decode c_DA_readSecret 140 = .ok (.goto (-57), 3) := by decide +kernel
theorem dDA_readSecret_143 : decode c_DA_readSecret 143 = .ok (.iconst 0, 1) := by decide +kernel
theorem dDA_readSecret_144 : decode c_DA_readSecret 144 = .ok (.istore 4, 2) := by decide +kernel
theorem dDA_readSecret_146 : decode c_DA_readSecret 146 = .ok (.iload 4, 2) := by decide +kernel
theorem dDA_readSecret_148 : decode c_DA_readSecret 148 = .ok (.aload_n 1, 1) := by decide +kernel
theorem dDA_readSecret_149 : decode c_DA_readSecret 149 = .ok (.getfield 87, 3) := by decide +kernel
theorem dDA_readSecret_152 : decode c_DA_readSecret 152 = .ok (.if_icmp .ge 47, 3) := by decide +kernel
theorem dDA_readSecret_155 : decode c_DA_readSecret 155 = .ok (.aload_n 0, 1) := by decide +kernel
theorem dDA_readSecret_156 : decode c_DA_readSecret 156 = .ok (.aload_n 0, 1) := by decide +kernel
theorem dDA_readSecret_157 : decode c_DA_readSecret 157 = .ok (.getfield 44, 3) := by decide +kernel
theorem dDA_readSecret_160 : decode c_DA_readSecret 160 = .ok (.iload 4, 2) := by decide +kernel
theorem dDA_readSecret_162 : decode c_DA_readSecret 162 = .ok (.aaload, 1) := by decide +kernel
theorem dDA_readSecret_163 : decode c_DA_readSecret 163 = .ok (.bipush 13, 2) := by decide +kernel
theorem dDA_readSecret_165 : decode c_DA_readSecret 165 = .ok (.sipush 4096, 3) := by decide +kernel
theorem dDA_readSecret_168 : decode c_DA_readSecret 168 = .ok (.aload_n 2, 1) := by decide +kernel
theorem dDA_readSecret_169 : decode c_DA_readSecret 169 = .ok (.iload_n 3, 1) := by decide +kernel
theorem dDA_readSecret_170 : decode c_DA_readSecret 170 = .ok (.invokevirtual 185, 3) := by decide +kernel
theorem dDA_readSecret_173 : decode c_DA_readSecret 173 = .ok (.aload_n 0, 1) := by decide +kernel
theorem dDA_readSecret_174 : decode c_DA_readSecret 174 = .ok (.getfield 22, 3) := by decide +kernel
theorem dDA_readSecret_177 : decode c_DA_readSecret 177 = .ok (.aload_n 0, 1) := by decide +kernel
theorem dDA_readSecret_178 : decode c_DA_readSecret 178 = .ok (.getfield 44, 3) := by decide +kernel
theorem dDA_readSecret_181 : decode c_DA_readSecret 181 = .ok (.iload 4, 2) := by decide +kernel
theorem dDA_readSecret_183 : decode c_DA_readSecret 183 = .ok (.aaload, 1) := by decide +kernel
theorem dDA_readSecret_184 : decode c_DA_readSecret 184 = .ok (.invokevirtual 119, 3) := by decide +kernel
theorem dDA_readSecret_187 : decode c_DA_readSecret 187 = .ok (.iinc 3 416, 6) := by decide +kernel
theorem dDA_readSecret_193 : decode c_DA_readSecret 193 = .ok (.iinc 4 1, 3) := by decide +kernel
theorem dDA_readSecret_196 : decode c_DA_readSecret 196 = .ok (.goto (-50), 3) := by decide +kernel
theorem dDA_readSecret_199 : decode c_DA_readSecret 199 = .ok (.return_, 1) := by decide +kernel
abbrev c_DA_writeSmallVectors : ByteArray := prog_3_method_3_code
abbrev y_DA_writeSmallVectors : MethodName := ⟨"LatticeKeys$Dsa", "writeSmallVectors", "(LLatticeKeys$DsaSet;[B)V"⟩
abbrev w_DA_writeSmallVectors : List Cond := Cond.code y_DA_writeSmallVectors c_DA_writeSmallVectors 6 none :: WG
theorem dDA_writeSmallVectors_0 : decode c_DA_writeSmallVectors 0 = .ok (.bipush 32, 2) := by decide +kernel
theorem dDA_writeSmallVectors_2 : decode c_DA_writeSmallVectors 2 = .ok (.aload_n 1, 1) := by decide +kernel
theorem dDA_writeSmallVectors_3 : decode c_DA_writeSmallVectors 3 = .ok (.getfield 123, 3) := by decide +kernel
theorem dDA_writeSmallVectors_6 : decode c_DA_writeSmallVectors 6 = .ok (.imul, 1) := by decide +kernel
theorem dDA_writeSmallVectors_7 : decode c_DA_writeSmallVectors 7 = .ok (.istore_n 3, 1) := by decide +kernel
theorem dDA_writeSmallVectors_8 : decode c_DA_writeSmallVectors 8 = .ok (.iconst 0, 1) := by decide +kernel
theorem dDA_writeSmallVectors_9 : decode c_DA_writeSmallVectors 9 = .ok (.istore 4, 2) := by decide +kernel
theorem dDA_writeSmallVectors_11 : decode c_DA_writeSmallVectors 11 = .ok (.iload 4, 2) := by decide +kernel
theorem dDA_writeSmallVectors_13 : decode c_DA_writeSmallVectors 13 = .ok (.aload_n 1, 1) := by decide +kernel
theorem dDA_writeSmallVectors_14 : decode c_DA_writeSmallVectors 14 = .ok (.getfield 96, 3) := by decide +kernel
theorem dDA_writeSmallVectors_17 : decode c_DA_writeSmallVectors 17 = .ok (.aload_n 1, 1) := by decide +kernel
theorem dDA_writeSmallVectors_18 : decode c_DA_writeSmallVectors 18 = .ok (.getfield 87, 3) := by decide +kernel
theorem dDA_writeSmallVectors_21 : decode c_DA_writeSmallVectors 21 = .ok (.iadd, 1) := by decide +kernel
theorem dDA_writeSmallVectors_22 : decode c_DA_writeSmallVectors 22 = .ok (.if_icmp .ge 97, 3) := by decide +kernel
theorem dDA_writeSmallVectors_25 : decode c_DA_writeSmallVectors 25 = .ok (.iload 4, 2) := by decide +kernel
theorem dDA_writeSmallVectors_27 : decode c_DA_writeSmallVectors 27 = .ok (.aload_n 1, 1) := by decide +kernel
theorem dDA_writeSmallVectors_28 : decode c_DA_writeSmallVectors 28 = .ok (.getfield 96, 3) := by decide +kernel
theorem dDA_writeSmallVectors_31 : decode c_DA_writeSmallVectors 31 = .ok (.if_icmp .ge 13, 3) := by decide +kernel
theorem dDA_writeSmallVectors_34 : decode c_DA_writeSmallVectors 34 = .ok (.aload_n 0, 1) := by decide +kernel
theorem dDA_writeSmallVectors_35 : decode c_DA_writeSmallVectors 35 = .ok (.getfield 38, 3) := by decide +kernel
theorem dDA_writeSmallVectors_38 : decode c_DA_writeSmallVectors 38 = .ok (.iload 4, 2) := by decide +kernel
theorem dDA_writeSmallVectors_40 : decode c_DA_writeSmallVectors 40 = .ok (.aaload, 1) := by decide +kernel
theorem dDA_writeSmallVectors_41 : decode c_DA_writeSmallVectors 41 = .ok (.goto 15, 3) := by decide +kernel
theorem dDA_writeSmallVectors_44 : decode c_DA_writeSmallVectors 44 = .ok (.aload_n 0, 1) := by decide +kernel
theorem dDA_writeSmallVectors_45 : decode c_DA_writeSmallVectors 45 = .ok (.getfield 41, 3) := by decide +kernel
theorem dDA_writeSmallVectors_48 : decode c_DA_writeSmallVectors 48 = .ok (.iload 4, 2) := by decide +kernel
theorem dDA_writeSmallVectors_50 : decode c_DA_writeSmallVectors 50 = .ok (.aload_n 1, 1) := by decide +kernel
theorem dDA_writeSmallVectors_51 : decode c_DA_writeSmallVectors 51 = .ok (.getfield 96, 3) := by decide +kernel
theorem dDA_writeSmallVectors_54 : decode c_DA_writeSmallVectors 54 = .ok (.isub, 1) := by decide +kernel
theorem dDA_writeSmallVectors_55 : decode c_DA_writeSmallVectors 55 = .ok (.aaload, 1) := by decide +kernel
theorem dDA_writeSmallVectors_56 : decode c_DA_writeSmallVectors 56 = .ok (.astore 5, 2) := by decide +kernel
theorem dDA_writeSmallVectors_58 : decode c_DA_writeSmallVectors 58 = .ok (.aload_n 0, 1) := by decide +kernel
theorem dDA_writeSmallVectors_59 : decode c_DA_writeSmallVectors 59 = .ok (.getfield 29, 3) := by decide +kernel
theorem dDA_writeSmallVectors_62 : decode c_DA_writeSmallVectors 62 = .ok (.aload_n 1, 1) := by decide +kernel
theorem dDA_writeSmallVectors_63 : decode c_DA_writeSmallVectors 63 = .ok (.aload 5, 2) := by decide +kernel
theorem dDA_writeSmallVectors_65 : decode c_DA_writeSmallVectors 65 = .ok (.aload_n 0, 1) := by decide +kernel
theorem dDA_writeSmallVectors_66 : decode c_DA_writeSmallVectors 66 = .ok (.getfield 60, 3) := by decide +kernel
theorem dDA_writeSmallVectors_69 : decode c_DA_writeSmallVectors 69 = .ok (.bipush 32, 2) := by decide +kernel
theorem dDA_writeSmallVectors_71 : decode c_DA_writeSmallVectors 71 = .ok (.iload 4, 2) := by decide +kernel
theorem dDA_writeSmallVectors_73 : decode c_DA_writeSmallVectors 73 = .ok (.invokevirtual 150, 3) := by decide +kernel
theorem dDA_writeSmallVectors_76 : decode c_DA_writeSmallVectors 76 = .ok (.aload_n 0, 1) := by decide +kernel
theorem dDA_writeSmallVectors_77 : decode c_DA_writeSmallVectors 77 = .ok (.getfield 22, 3) := by decide +kernel
theorem dDA_writeSmallVectors_80 : decode c_DA_writeSmallVectors 80 = .ok (.aload 5, 2) := by decide +kernel
theorem dDA_writeSmallVectors_82 : decode c_DA_writeSmallVectors 82 = .ok (.aload_n 1, 1) := by decide +kernel
theorem dDA_writeSmallVectors_83 : decode c_DA_writeSmallVectors 83 = .ok (.getfield 154, 3) := by decide +kernel
theorem dDA_writeSmallVectors_86 : decode c_DA_writeSmallVectors 86 = .ok (.aload_n 0, 1) := by decide +kernel
theorem dDA_writeSmallVectors_87 : decode c_DA_writeSmallVectors 87 = .ok (.getfield 57, 3) := by decide +kernel
theorem dDA_writeSmallVectors_90 : decode c_DA_writeSmallVectors 90 = .ok (.invokevirtual 157, 3) := by decide +kernel
theorem dDA_writeSmallVectors_93 : decode c_DA_writeSmallVectors 93 = .ok (.aload_n 0, 1) := by decide +kernel
theorem dDA_writeSmallVectors_94 : decode c_DA_writeSmallVectors 94 = .ok (.getfield 57, 3) := by decide +kernel
theorem dDA_writeSmallVectors_97 : decode c_DA_writeSmallVectors 97 = .ok (.aload_n 1, 1) := by decide +kernel
theorem dDA_writeSmallVectors_98 : decode c_DA_writeSmallVectors 98 = .ok (.getfield 123, 3) := by decide +kernel
theorem dDA_writeSmallVectors_101 : decode c_DA_writeSmallVectors 101 = .ok (.aload_n 2, 1) := by decide +kernel
theorem dDA_writeSmallVectors_102 : decode c_DA_writeSmallVectors 102 = .ok (.sipush 128, 3) := by decide +kernel
theorem dDA_writeSmallVectors_105 : decode c_DA_writeSmallVectors 105 = .ok (.iload_n 3, 1) := by decide +kernel
theorem dDA_writeSmallVectors_106 : decode c_DA_writeSmallVectors 106 = .ok (.iload 4, 2) := by decide +kernel
theorem dDA_writeSmallVectors_108 : decode c_DA_writeSmallVectors 108 = .ok (.imul, 1) := by decide +kernel
theorem dDA_writeSmallVectors_109 : decode c_DA_writeSmallVectors 109 = .ok (.iadd, 1) := by decide +kernel
theorem dDA_writeSmallVectors_110 : decode c_DA_writeSmallVectors 110 = .ok (.invokestatic 140, 3) := by decide +kernel
theorem dDA_writeSmallVectors_113 : decode c_DA_writeSmallVectors 113 = .ok (.iinc 4 1, 3) := by decide +kernel
theorem dDA_writeSmallVectors_116 : decode c_DA_writeSmallVectors 116 = .ok (.goto (-105), 3) := by decide +kernel
theorem dDA_writeSmallVectors_119 : decode c_DA_writeSmallVectors 119 = .ok (.return_, 1) := by decide +kernel
abbrev c_DA_makePair : ByteArray := prog_3_method_2_code
abbrev y_DA_makePair : MethodName := ⟨"LatticeKeys$Dsa", "makePair", "(LLatticeKeys$DsaSet;[B[B[B)V"⟩
abbrev w_DA_makePair : List Cond := Cond.code y_DA_makePair c_DA_makePair 7 none :: WG
theorem dDA_makePair_0 : decode c_DA_makePair 0 = .ok (.aload_n 0, 1) := by decide +kernel
theorem dDA_makePair_1 : decode c_DA_makePair 1 = .ok (.getfield 10, 3) := by decide +kernel
theorem dDA_makePair_4 : decode c_DA_makePair 4 = .ok (.iconst 3, 1) := by decide +kernel
theorem dDA_makePair_5 : decode c_DA_makePair 5 = .ok (.invokevirtual 79, 3) := by decide +kernel
theorem dDA_makePair_8 : decode c_DA_makePair 8 = .ok (.aload_n 0, 1) := by decide +kernel
theorem dDA_makePair_9 : decode c_DA_makePair 9 = .ok (.getfield 10, 3) := by decide +kernel
theorem dDA_makePair_12 : decode c_DA_makePair 12 = .ok (.aload_n 2, 1) := by decide +kernel
theorem dDA_makePair_13 : decode c_DA_makePair 13 = .ok (.iconst 0, 1) := by decide +kernel
theorem dDA_makePair_14 : decode c_DA_makePair 14 = .ok (.bipush 32, 2) := by decide +kernel
theorem dDA_makePair_16 : decode c_DA_makePair 16 = .ok (.invokevirtual 83, 3) := by decide +kernel
theorem dDA_makePair_19 : decode c_DA_makePair 19 = .ok (.aload_n 0, 1) := by decide +kernel
theorem dDA_makePair_20 : decode c_DA_makePair 20 = .ok (.getfield 10, 3) := by decide +kernel
theorem dDA_makePair_23 : decode c_DA_makePair 23 = .ok (.aload_n 1, 1) := by decide +kernel
theorem dDA_makePair_24 : decode c_DA_makePair 24 = .ok (.getfield 87, 3) := by decide +kernel
theorem dDA_makePair_27 : decode c_DA_makePair 27 = .ok (.invokevirtual 93, 3) := by decide +kernel
theorem dDA_makePair_30 : decode c_DA_makePair 30 = .ok (.aload_n 0, 1) := by decide +kernel
theorem dDA_makePair_31 : decode c_DA_makePair 31 = .ok (.getfield 10, 3) := by decide +kernel
theorem dDA_makePair_34 : decode c_DA_makePair 34 = .ok (.aload_n 1, 1) := by decide +kernel
theorem dDA_makePair_35 : decode c_DA_makePair 35 = .ok (.getfield 96, 3) := by decide +kernel
theorem dDA_makePair_38 : decode c_DA_makePair 38 = .ok (.invokevirtual 93, 3) := by decide +kernel
theorem dDA_makePair_41 : decode c_DA_makePair 41 = .ok (.aload_n 0, 1) := by decide +kernel
theorem dDA_makePair_42 : decode c_DA_makePair 42 = .ok (.getfield 10, 3) := by decide +kernel
theorem dDA_makePair_45 : decode c_DA_makePair 45 = .ok (.invokevirtual 99, 3) := by decide +kernel
theorem dDA_makePair_48 : decode c_DA_makePair 48 = .ok (.aload_n 0, 1) := by decide +kernel
theorem dDA_makePair_49 : decode c_DA_makePair 49 = .ok (.getfield 10, 3) := by decide +kernel
theorem dDA_makePair_52 : decode c_DA_makePair 52 = .ok (.aload_n 0, 1) := by decide +kernel
theorem dDA_makePair_53 : decode c_DA_makePair 53 = .ok (.getfield 60, 3) := by decide +kernel
theorem dDA_makePair_56 : decode c_DA_makePair 56 = .ok (.iconst 0, 1) := by decide +kernel
theorem dDA_makePair_57 : decode c_DA_makePair 57 = .ok (.sipush 128, 3) := by decide +kernel
theorem dDA_makePair_60 : decode c_DA_makePair 60 = .ok (.invokevirtual 102, 3) := by decide +kernel
theorem dDA_makePair_63 : decode c_DA_makePair 63 = .ok (.aload_n 0, 1) := by decide +kernel
theorem dDA_makePair_64 : decode c_DA_makePair 64 = .ok (.getfield 60, 3) := by decide +kernel
theorem dDA_makePair_67 : decode c_DA_makePair 67 = .ok (.iconst 0, 1) := by decide +kernel
theorem dDA_makePair_68 : decode c_DA_makePair 68 = .ok (.aload_n 3, 1) := by decide +kernel
theorem dDA_makePair_69 : decode c_DA_makePair 69 = .ok (.iconst 0, 1) := by decide +kernel
theorem dDA_makePair_70 : decode c_DA_makePair 70 = .ok (.bipush 32, 2) := by decide +kernel
theorem dDA_makePair_72 : decode c_DA_makePair 72 = .ok (.invokestatic 105, 3) := by decide +kernel
theorem dDA_makePair_75 : decode c_DA_makePair 75 = .ok (.aload_n 0, 1) := by decide +kernel
theorem dDA_makePair_76 : decode c_DA_makePair 76 = .ok (.getfield 60, 3) := by decide +kernel
theorem dDA_makePair_79 : decode c_DA_makePair 79 = .ok (.iconst 0, 1) := by decide +kernel
theorem dDA_makePair_80 : decode c_DA_makePair 80 = .ok (.aload 4, 2) := by decide +kernel
theorem dDA_makePair_82 : decode c_DA_makePair 82 = .ok (.iconst 0, 1) := by decide +kernel
theorem dDA_makePair_83 : decode c_DA_makePair 83 = .ok (.bipush 32, 2) := by decide +kernel
theorem dDA_makePair_85 : decode c_DA_makePair 85 = .ok (.invokestatic 105, 3) := by decide +kernel
theorem dDA_makePair_88 : decode c_DA_makePair 88 = .ok (.aload_n 0, 1) := by decide +kernel
theorem dDA_makePair_89 : decode c_DA_makePair 89 = .ok (.getfield 60, 3) := by decide +kernel
theorem dDA_makePair_92 : decode c_DA_makePair 92 = .ok (.bipush 96, 2) := by decide +kernel
theorem dDA_makePair_94 : decode c_DA_makePair 94 = .ok (.aload 4, 2) := by decide +kernel
theorem dDA_makePair_96 : decode c_DA_makePair 96 = .ok (.bipush 32, 2) := by decide +kernel
theorem dDA_makePair_98 : decode c_DA_makePair 98 = .ok (.bipush 32, 2) := by decide +kernel
theorem dDA_makePair_100 : decode c_DA_makePair 100 = .ok (.invokestatic 105, 3) := by decide +kernel
theorem dDA_makePair_103 : decode c_DA_makePair 103 = .ok (.aload_n 0, 1) := by decide +kernel
theorem dDA_makePair_104 : decode c_DA_makePair 104 = .ok (.aload_n 1, 1) := by decide +kernel
theorem dDA_makePair_105 : decode c_DA_makePair 105 = .ok (.aload 4, 2) := by decide +kernel
theorem dDA_makePair_107 : decode c_DA_makePair 107 = .ok (.invokevirtual 111, 3) := by decide +kernel
theorem dDA_makePair_110 : decode c_DA_makePair 110 = .ok (.aload_n 0, 1) := by decide +kernel
theorem dDA_makePair_111 : decode c_DA_makePair 111 = .ok (.getfield 29, 3) := by decide +kernel
theorem dDA_makePair_114 : decode c_DA_makePair 114 = .ok (.aload_n 1, 1) := by decide +kernel
theorem dDA_makePair_115 : decode c_DA_makePair 115 = .ok (.aload_n 3, 1) := by decide +kernel
theorem dDA_makePair_116 : decode c_DA_makePair 116 = .ok (.aload_n 0, 1) := by decide +kernel
theorem dDA_makePair_117 : decode c_DA_makePair 117 = .ok (.getfield 35, 3) := by decide +kernel
theorem dDA_makePair_120 : decode c_DA_makePair 120 = .ok (.invokevirtual 115, 3) := by decide +kernel
theorem dDA_makePair_123 : decode c_DA_makePair 123 = .ok (.iconst 0, 1) := by decide +kernel
theorem dDA_makePair_124 : decode c_DA_makePair 124 = .ok (.istore 5, 2) := by decide +kernel
theorem dDA_makePair_126 : decode c_DA_makePair 126 = .ok (.iload 5, 2) := by decide +kernel
theorem dDA_makePair_128 : decode c_DA_makePair 128 = .ok (.aload_n 1, 1) := by decide +kernel
theorem dDA_makePair_129 : decode c_DA_makePair 129 = .ok (.getfield 96, 3) := by decide +kernel
theorem dDA_makePair_132 : decode c_DA_makePair 132 = .ok (.if_icmp .ge 23, 3) := by decide +kernel
theorem dDA_makePair_135 : decode c_DA_makePair 135 = .ok (.aload_n 0, 1) := by decide +kernel
theorem dDA_makePair_136 : decode c_DA_makePair 136 = .ok (.getfield 22, 3) := by decide +kernel
theorem dDA_makePair_139 : decode c_DA_makePair 139 = .ok (.aload_n 0, 1) := by decide +kernel
theorem dDA_makePair_140 : decode c_DA_makePair 140 = .ok (.getfield 38, 3) := by decide +kernel
theorem dDA_makePair_143 : decode c_DA_makePair 143 = .ok (.iload 5, 2) := by decide +kernel
theorem dDA_makePair_145 : decode c_DA_makePair 145 = .ok (.aaload, 1) := by decide +kernel
theorem dDA_makePair_146 : decode c_DA_makePair 146 = .ok (.invokevirtual 119, 3) := by decide +kernel
theorem dDA_makePair_149 : decode c_DA_makePair 149 = .ok (.iinc 5 1, 3) := by decide +kernel
theorem dDA_makePair_152 : decode c_DA_makePair 152 = .ok (.goto (-26), 3) := by decide +kernel
theorem dDA_makePair_155 : decode c_DA_makePair 155 = .ok (.sipush 128, 3) := by decide +kernel
theorem dDA_makePair_158 : decode c_DA_makePair 158 = .ok (.bipush 32, 2) := by decide +kernel
theorem dDA_makePair_160 : decode c_DA_makePair 160 = .ok (.aload_n 1, 1) := by decide +kernel
theorem dDA_makePair_161 : decode c_DA_makePair 161 = .ok (.getfield 123, 3) := by decide +kernel
theorem dDA_makePair_164 : decode c_DA_makePair 164 = .ok (.imul, 1) := by decide +kernel
theorem dDA_makePair_165 : decode c_DA_makePair 165 = .ok (.aload_n 1, 1) := by decide +kernel
theorem dDA_makePair_166 : decode c_DA_makePair 166 = .ok (.getfield 87, 3) := by decide +kernel
theorem dDA_makePair_169 : decode c_DA_makePair 169 = .ok (.aload_n 1, 1) := by decide +kernel
theorem dDA_makePair_170 : decode c_DA_makePair 170 = .ok (.getfield 96, 3) := by decide +kernel
theorem dDA_makePair_173 : decode c_DA_makePair 173 = .ok (.iadd, 1) := by decide +kernel
theorem dDA_makePair_174 : decode c_DA_makePair 174 = .ok (.imul, 1) := by decide +kernel
theorem dDA_makePair_175 : decode c_DA_makePair 175 = .ok (.iadd, 1) := by decide +kernel
theorem dDA_makePair_176 : decode c_DA_makePair 176 = .ok (.istore 5, 2) := by decide +kernel
theorem dDA_makePair_178 : decode c_DA_makePair 178 = .ok (.iconst 0, 1) := by decide +kernel
theorem dDA_makePair_179 : decode c_DA_makePair 179 = .ok (.istore 6, 2) := by decide +kernel
theorem dDA_makePair_181 : decode c_DA_makePair 181 = .ok (.iload 6, 2) := by decide +kernel
theorem dDA_makePair_183 : decode c_DA_makePair 183 = .ok (.aload_n 1, 1) := by decide +kernel
theorem dDA_makePair_184 : decode c_DA_makePair 184 = .ok (.getfield 87, 3) := by decide +kernel
theorem dDA_makePair_187 : decode c_DA_makePair 187 = .ok (.if_icmp .ge 108, 3) := by decide +kernel
theorem dDA_makePair_190 : decode c_DA_makePair 190 = .ok (.aload_n 0, 1) := by decide +kernel
theorem dDA_makePair_191 : decode c_DA_makePair 191 = .ok (.aload_n 1, 1) := by decide +kernel
theorem dDA_makePair_192 : decode c_DA_makePair 192 = .ok (.iload 6, 2) := by decide +kernel
theorem dDA_makePair_194 : decode c_DA_makePair 194 = .ok (.aload_n 0, 1) := by decide +kernel
theorem dDA_makePair_195 : decode c_DA_makePair 195 = .ok (.getfield 38, 3) := by decide +kernel
theorem dDA_makePair_198 : decode c_DA_makePair 198 = .ok (.invokevirtual 126, 3) := by decide +kernel
theorem dDA_makePair_201 : decode c_DA_makePair 201 = .ok (.aload_n 0, 1) := by decide +kernel
theorem dDA_makePair_202 : decode c_DA_makePair 202 = .ok (.getfield 22, 3) := by decide +kernel
theorem dDA_makePair_205 : decode c_DA_makePair 205 = .ok (.aload_n 0, 1) := by decide +kernel
theorem dDA_makePair_206 : decode c_DA_makePair 206 = .ok (.getfield 50, 3) := by decide +kernel
theorem dDA_makePair_209 : decode c_DA_makePair 209 = .ok (.iload 6, 2) := by decide +kernel
theorem dDA_makePair_211 : decode c_DA_makePair 211 = .ok (.aaload, 1) := by decide +kernel
theorem dDA_makePair_212 : decode c_DA_makePair 212 = .ok (.invokevirtual 130, 3) := by decide +kernel
theorem dDA_makePair_215 : decode c_DA_makePair 215 = .ok (.aload_n 0, 1) := by decide +kernel
theorem dDA_makePair_216 : decode c_DA_makePair 216 = .ok (.getfield 22, 3) := by decide +kernel
theorem dDA_makePair_219 : decode c_DA_makePair 219 = .ok (.aload_n 0, 1) := by decide +kernel
theorem dDA_makePair_220 : decode c_DA_makePair 220 = .ok (.getfield 50, 3) := by decide +kernel
theorem dDA_makePair_223 : decode c_DA_makePair 223 = .ok (.iload 6, 2) := by decide +kernel
theorem dDA_makePair_225 : decode c_DA_makePair 225 = .ok (.aaload, 1) := by decide +kernel
theorem dDA_makePair_226 : decode c_DA_makePair 226 = .ok (.aload_n 0, 1) := by decide +kernel
theorem dDA_makePair_227 : decode c_DA_makePair 227 = .ok (.getfield 41, 3) := by decide +kernel
theorem dDA_makePair_230 : decode c_DA_makePair 230 = .ok (.iload 6, 2) := by decide +kernel
theorem dDA_makePair_232 : decode c_DA_makePair 232 = .ok (.aaload, 1) := by decide +kernel
theorem dDA_makePair_233 : decode c_DA_makePair 233 = .ok (.invokevirtual 133, 3) := by decide +kernel
theorem dDA_makePair_236 : decode c_DA_makePair 236 = .ok (.aload_n 0, 1) := by decide +kernel
theorem dDA_makePair_237 : decode c_DA_makePair 237 = .ok (.aload_n 0, 1) := by decide +kernel
theorem dDA_makePair_238 : decode c_DA_makePair 238 = .ok (.getfield 50, 3) := by decide +kernel
theorem dDA_makePair_241 : decode c_DA_makePair 241 = .ok (.iload 6, 2) := by decide +kernel
theorem dDA_makePair_243 : decode c_DA_makePair 243 = .ok (.aaload, 1) := by decide +kernel
theorem dDA_makePair_244 : decode c_DA_makePair 244 = .ok (.invokevirtual 137, 3) := by decide +kernel
theorem dDA_makePair_247 : decode c_DA_makePair 247 = .ok (.aload_n 0, 1) := by decide +kernel
theorem dDA_makePair_248 : decode c_DA_makePair 248 = .ok (.getfield 50, 3) := by decide +kernel
theorem dDA_makePair_251 : decode c_DA_makePair 251 = .ok (.iload 6, 2) := by decide +kernel
theorem dDA_makePair_253 : decode c_DA_makePair 253 = .ok (.aaload, 1) := by decide +kernel
theorem dDA_makePair_254 : decode c_DA_makePair 254 = .ok (.bipush 10, 2) := by decide +kernel
theorem dDA_makePair_256 : decode c_DA_makePair 256 = .ok (.aload_n 3, 1) := by decide +kernel
theorem dDA_makePair_257 : decode c_DA_makePair 257 = .ok (.bipush 32, 2) := by decide +kernel
theorem dDA_makePair_259 : decode c_DA_makePair 259 = .ok (.sipush 320, 3) := by decide +kernel
theorem dDA_makePair_262 : decode c_DA_makePair 262 = .ok (.iload 6, 2) := by decide +kernel
theorem dDA_makePair_264 : decode c_DA_makePair 264 = .ok (.imul, 1) := by decide +kernel
theorem dDA_makePair_265 : decode c_DA_makePair 265 = .ok (.iadd, 1) := by decide +kernel
theorem dDA_makePair_266 : decode c_DA_makePair 266 = .ok (.invokestatic 140, 3) := by decide +kernel
theorem dDA_makePair_269 : decode c_DA_makePair 269 = .ok (.aload_n 0, 1) := by decide +kernel
theorem dDA_makePair_270 : decode c_DA_makePair 270 = .ok (.getfield 57, 3) := by decide +kernel
theorem dDA_makePair_273 : decode c_DA_makePair 273 = .ok (.bipush 13, 2) := by decide +kernel
theorem dDA_makePair_275 : decode c_DA_makePair 275 = .ok (.aload 4, 2) := by decide +kernel
theorem dDA_makePair_277 : decode c_DA_makePair 277 = .ok (.iload 5, 2) := by decide +kernel
theorem dDA_makePair_279 : decode c_DA_makePair 279 = .ok (.sipush 416, 3) := by decide +kernel
theorem dDA_makePair_282 : decode c_DA_makePair 282 = .ok (.iload 6, 2) := by decide +kernel
theorem dDA_makePair_284 : decode c_DA_makePair 284 = .ok (.imul, 1) := by decide +kernel
theorem dDA_makePair_285 : decode c_DA_makePair 285 = .ok (.iadd, 1) := by decide +kernel
theorem dDA_makePair_286 : decode c_DA_makePair 286 = .ok (.invokestatic 140, 3) := by decide +kernel
theorem dDA_makePair_289 : decode c_DA_makePair 289 = .ok (.iinc 6 1, 3) := by decide +kernel
theorem dDA_makePair_292 : decode c_DA_makePair 292 = .ok (.goto (-111), 3) := by decide +kernel
theorem dDA_makePair_295 : decode c_DA_makePair 295 = .ok (.aload_n 0, 1) := by decide +kernel
theorem dDA_makePair_296 : decode c_DA_makePair 296 = .ok (.aload_n 3, 1) := by decide +kernel
theorem dDA_makePair_297 : decode c_DA_makePair 297 = .ok (.invokevirtual 146, 3) := by decide +kernel
theorem dDA_makePair_300 : decode c_DA_makePair 300 = .ok (.aload_n 0, 1) := by decide +kernel
theorem dDA_makePair_301 : decode c_DA_makePair 301 = .ok (.getfield 64, 3) := by decide +kernel
theorem dDA_makePair_304 : decode c_DA_makePair 304 = .ok (.iconst 0, 1) := by decide +kernel
theorem dDA_makePair_305 : decode c_DA_makePair 305 = .ok (.aload 4, 2) := by decide +kernel
theorem dDA_makePair_307 : decode c_DA_makePair 307 = .ok (.bipush 64, 2) := by decide +kernel
theorem dDA_makePair_309 : decode c_DA_makePair 309 = .ok (.bipush 64, 2) := by decide +kernel
theorem dDA_makePair_311 : decode c_DA_makePair 311 = .ok (.invokestatic 105, 3) := by decide +kernel
theorem dDA_makePair_314 : decode c_DA_makePair 314 = .ok (.return_, 1) := by decide +kernel
set_option maxHeartbeats 400000 in
set_option maxRecDepth 100000 in
theorem t_DA_digestOf (l : Launch) (g : Gd) (sz : Nat) (T : Ty) (xs : List Nat) (pl : va_W) (hO : okx g T xs pl) (hU : uni T) (hc0 : clo T xs 0) (hc3 : clo T xs 3) (h0 b n : Nat) (k_h0 : T h0 = some (15, 0)) (k_b : T b = some (1, n)) (h2 : n < 65536)  : Met l y_DA_digestOf w_DA_digestOf ({ frames := 3, cells := 0, slots := 0, locals := 100 } : Room) (va_Pc [.ref h0, .ref b] (pr (en g) g.1 vcl sz ([] ++ pl))) (va_Qv (fun (u : va_W) => (True) ∧ okx g T xs u) (po g.1 vcl (va_A ([] ++ pl) sz) (fun (u : va_W) => [] ++ u)) (va_A ([] ++ pl) sz)) 0 0 (va_A ([] ++ pl) sz) := by
  sorry
set_option maxHeartbeats 400000 in
set_option maxRecDepth 100000 in
theorem t_DA_digestMessage (l : Launch) (g : Gd) (sz : Nat) (T : Ty) (xs : List Nat) (pl : va_W) (hO : okx g T xs pl) (hU : uni T) (hc0 : clo T xs 0) (hc3 : clo T xs 3) (h0 b n fr to_ : Nat) (cl : Int32) (k_h0 : T h0 = some (15, 0)) (k_b : T b = some (1, n)) (h1 : fr ≤ to_) (h3 : to_ ≤ n) (h2 : n < 65536)  : Met l y_DA_digestMessage w_DA_digestMessage ({ frames := 3, cells := 0, slots := 0, locals := 100 } : Room) (va_Pc [.ref h0, .ref b, .int (nI fr), .int (nI to_), .int cl] (pr (en g) g.1 vcl sz ([] ++ pl))) (va_Qv (fun (u : va_W) => (True) ∧ okx g T xs u) (po g.1 vcl (va_A ([] ++ pl) sz) (fun (u : va_W) => [] ++ u)) (va_A ([] ++ pl) sz)) 0 0 (va_A ([] ++ pl) sz) := by
  sorry
set_option maxHeartbeats 400000 in
set_option maxRecDepth 100000 in
theorem t_DA_readFlipped (l : Launch) (g : Gd) (sz : Nat) (T : Ty) (xs : List Nat) (pl : va_W) (hO : okx g T xs pl) (hU : uni T) (hc0 : clo T xs 0) (h0 f fr n b at_ : Nat) (tp : Int32) (k_h0 : T h0 = some (15, 0)) (k_f : T f = some (0, 256)) (k_fr : T fr = some (1, n)) (h1 : at_ + 32 * b ≤ n) (h2 : n < 65536) (h3 : b < 32)  : Met l y_DA_readFlipped w_DA_readFlipped ({ frames := 1, cells := 0, slots := 0, locals := 28 } : Room) (va_Pc [.ref h0, .ref f, .int (nI b), .int tp, .ref fr, .int (nI at_)] (pr (en g) g.1 vcl sz ([] ++ pl))) (va_Qv (fun (u : va_W) => (True) ∧ okx g T xs u) (po g.1 vcl (va_A ([] ++ pl) sz) (fun (u : va_W) => [] ++ u)) (va_A ([] ++ pl) sz)) 0 0 (va_A ([] ++ pl) sz) := by
  sorry
set_option maxHeartbeats 400000 in
set_option maxRecDepth 100000 in
theorem t_DA_splitRow (l : Launch) (g : Gd) (sz : Nat) (T : Ty) (xs : List Nat) (pl : va_W) (hO : okx g T xs pl) (hU : uni T) (hc0 : clo T xs 0) (h0 f : Nat) (k_h0 : T h0 = some (15, 0)) (k_f : T f = some (0, 256))  : Met l y_DA_splitRow w_DA_splitRow ({ frames := 0, cells := 0, slots := 0, locals := 0 } : Room) (va_Pc [.ref h0, .ref f] (pr (en g) g.1 vcl sz ([] ++ pl))) (va_Qv (fun (u : va_W) => (True) ∧ okx g T xs u) (po g.1 vcl (va_A ([] ++ pl) sz) (fun (u : va_W) => [] ++ u)) (va_A ([] ++ pl) sz)) 0 0 (va_A ([] ++ pl) sz) := by
  sorry
set_option maxHeartbeats 400000 in
set_option maxRecDepth 100000 in
theorem t_DA_multiplyBall (l : Launch) (g : Gd) (sz : Nat) (T : Ty) (xs : List Nat) (pl : va_W) (hO : okx g T xs pl) (hU : uni T) (hc0 : clo T xs 0) (h0 f : Nat) (k_h0 : T h0 = some (15, 0)) (k_f : T f = some (0, 256))  : Met l y_DA_multiplyBall w_DA_multiplyBall ({ frames := 2, cells := 0, slots := 0, locals := 53 } : Room) (va_Pc [.ref h0, .ref f] (pr (en g) g.1 vcl sz ([] ++ pl))) (va_Qv (fun (u : va_W) => (True) ∧ okx g T xs u) (po g.1 vcl (va_A ([] ++ pl) sz) (fun (u : va_W) => [] ++ u)) (va_A ([] ++ pl) sz)) 0 0 (va_A ([] ++ pl) sz) := by
  sorry
set_option maxHeartbeats 400000 in
set_option maxRecDepth 100000 in
theorem t_DA_multiplyRow_0 (l : Launch) (g : Gd) (sz : Nat) (T : Ty) (xs : List Nat) (pl : va_W) (hO : okx g T xs pl) (hU : uni T) (hc0 : clo T xs 0) (h0 st vc rw : Nat) (k_h0 : T h0 = some (15, 0)) (k_st : T st = some (43, 0)) (k_vc : T vc = some (3, 7)) (h1 : rw < 4)  : Met l y_DA_multiplyRow w_DA_multiplyRow ({ frames := 1, cells := 0, slots := 0, locals := 25 } : Room) (va_Pc [.ref h0, .ref st, .int (nI rw), .ref vc] (pr (en g) g.1 vcl sz ([] ++ pl))) (va_Qv (fun (u : va_W) => (True) ∧ okx g T xs u) (po g.1 vcl (va_A ([] ++ pl) sz) (fun (u : va_W) => [] ++ u)) (va_A ([] ++ pl) sz)) 0 0 (va_A ([] ++ pl) sz) := by
  sorry
set_option maxHeartbeats 400000 in
set_option maxRecDepth 100000 in
theorem t_DA_multiplyRow_1 (l : Launch) (g : Gd) (sz : Nat) (T : Ty) (xs : List Nat) (pl : va_W) (hO : okx g T xs pl) (hU : uni T) (hc0 : clo T xs 0) (h0 st vc rw : Nat) (k_h0 : T h0 = some (15, 0)) (k_st : T st = some (44, 0)) (k_vc : T vc = some (3, 7)) (h1 : rw < 6)  : Met l y_DA_multiplyRow w_DA_multiplyRow ({ frames := 1, cells := 0, slots := 0, locals := 25 } : Room) (va_Pc [.ref h0, .ref st, .int (nI rw), .ref vc] (pr (en g) g.1 vcl sz ([] ++ pl))) (va_Qv (fun (u : va_W) => (True) ∧ okx g T xs u) (po g.1 vcl (va_A ([] ++ pl) sz) (fun (u : va_W) => [] ++ u)) (va_A ([] ++ pl) sz)) 0 0 (va_A ([] ++ pl) sz) := by
  sorry
set_option maxHeartbeats 400000 in
set_option maxRecDepth 100000 in
theorem t_DA_multiplyRow_2 (l : Launch) (g : Gd) (sz : Nat) (T : Ty) (xs : List Nat) (pl : va_W) (hO : okx g T xs pl) (hU : uni T) (hc0 : clo T xs 0) (h0 st vc rw : Nat) (k_h0 : T h0 = some (15, 0)) (k_st : T st = some (45, 0)) (k_vc : T vc = some (3, 7)) (h1 : rw < 8)  : Met l y_DA_multiplyRow w_DA_multiplyRow ({ frames := 1, cells := 0, slots := 0, locals := 25 } : Room) (va_Pc [.ref h0, .ref st, .int (nI rw), .ref vc] (pr (en g) g.1 vcl sz ([] ++ pl))) (va_Qv (fun (u : va_W) => (True) ∧ okx g T xs u) (po g.1 vcl (va_A ([] ++ pl) sz) (fun (u : va_W) => [] ++ u)) (va_A ([] ++ pl) sz)) 0 0 (va_A ([] ++ pl) sz) := by
  sorry
set_option maxHeartbeats 400000 in
set_option maxRecDepth 100000 in
theorem t_DA_readSecret_0 (l : Launch) (g : Gd) (sz : Nat) (T : Ty) (xs : List Nat) (pl : va_W) (hO : okx g T xs pl) (hU : uni T) (hc0 : clo T xs 0) (hc4 : clo T xs 4) (h0 st sk : Nat) (k_h0 : T h0 = some (15, 0)) (k_st : T st = some (43, 0)) (k_sk : T sk = some (1, 2560))  : Met l y_DA_readSecret w_DA_readSecret ({ frames := 5, cells := 0, slots := 0, locals := 152 } : Room) (va_Pc [.ref h0, .ref st, .ref sk] (pr (en g) g.1 vcl sz ([] ++ pl))) (va_Qv (fun (u : va_W) => (True) ∧ okx g T xs u) (po g.1 vcl (va_A ([] ++ pl) sz) (fun (u : va_W) => [] ++ u)) (va_A ([] ++ pl) sz)) 0 0 (va_A ([] ++ pl) sz) := by
  sorry
set_option maxHeartbeats 400000 in
set_option maxRecDepth 100000 in
theorem t_DA_readSecret_1 (l : Launch) (g : Gd) (sz : Nat) (T : Ty) (xs : List Nat) (pl : va_W) (hO : okx g T xs pl) (hU : uni T) (hc0 : clo T xs 0) (hc4 : clo T xs 4) (h0 st sk : Nat) (k_h0 : T h0 = some (15, 0)) (k_st : T st = some (44, 0)) (k_sk : T sk = some (1, 4032))  : Met l y_DA_readSecret w_DA_readSecret ({ frames := 5, cells := 0, slots := 0, locals := 152 } : Room) (va_Pc [.ref h0, .ref st, .ref sk] (pr (en g) g.1 vcl sz ([] ++ pl))) (va_Qv (fun (u : va_W) => (True) ∧ okx g T xs u) (po g.1 vcl (va_A ([] ++ pl) sz) (fun (u : va_W) => [] ++ u)) (va_A ([] ++ pl) sz)) 0 0 (va_A ([] ++ pl) sz) := by
  sorry
set_option maxHeartbeats 400000 in
set_option maxRecDepth 100000 in
theorem t_DA_readSecret_2 (l : Launch) (g : Gd) (sz : Nat) (T : Ty) (xs : List Nat) (pl : va_W) (hO : okx g T xs pl) (hU : uni T) (hc0 : clo T xs 0) (hc4 : clo T xs 4) (h0 st sk : Nat) (k_h0 : T h0 = some (15, 0)) (k_st : T st = some (45, 0)) (k_sk : T sk = some (1, 4896))  : Met l y_DA_readSecret w_DA_readSecret ({ frames := 5, cells := 0, slots := 0, locals := 152 } : Room) (va_Pc [.ref h0, .ref st, .ref sk] (pr (en g) g.1 vcl sz ([] ++ pl))) (va_Qv (fun (u : va_W) => (True) ∧ okx g T xs u) (po g.1 vcl (va_A ([] ++ pl) sz) (fun (u : va_W) => [] ++ u)) (va_A ([] ++ pl) sz)) 0 0 (va_A ([] ++ pl) sz) := by
  sorry
set_option maxHeartbeats 400000 in
set_option maxRecDepth 100000 in
theorem t_DA_writeSmallVectors_0 (l : Launch) (g : Gd) (sz : Nat) (T : Ty) (xs : List Nat) (pl : va_W) (hO : okx g T xs pl) (hU : uni T) (hc0 : clo T xs 0) (hc4 : clo T xs 4) (h0 st sk : Nat) (k_h0 : T h0 = some (15, 0)) (k_st : T st = some (43, 0)) (k_sk : T sk = some (1, 2560))  : Met l y_DA_writeSmallVectors w_DA_writeSmallVectors ({ frames := 5, cells := 0, slots := 0, locals := 151 } : Room) (va_Pc [.ref h0, .ref st, .ref sk] (pr (en g) g.1 vcl sz ([] ++ pl))) (va_Qv (fun (u : va_W) => (True) ∧ okx g T xs u) (po g.1 vcl (va_A ([] ++ pl) sz) (fun (u : va_W) => [] ++ u)) (va_A ([] ++ pl) sz)) 0 0 (va_A ([] ++ pl) sz) := by
  sorry
set_option maxHeartbeats 400000 in
set_option maxRecDepth 100000 in
theorem t_DA_writeSmallVectors_1 (l : Launch) (g : Gd) (sz : Nat) (T : Ty) (xs : List Nat) (pl : va_W) (hO : okx g T xs pl) (hU : uni T) (hc0 : clo T xs 0) (hc4 : clo T xs 4) (h0 st sk : Nat) (k_h0 : T h0 = some (15, 0)) (k_st : T st = some (44, 0)) (k_sk : T sk = some (1, 4032))  : Met l y_DA_writeSmallVectors w_DA_writeSmallVectors ({ frames := 5, cells := 0, slots := 0, locals := 151 } : Room) (va_Pc [.ref h0, .ref st, .ref sk] (pr (en g) g.1 vcl sz ([] ++ pl))) (va_Qv (fun (u : va_W) => (True) ∧ okx g T xs u) (po g.1 vcl (va_A ([] ++ pl) sz) (fun (u : va_W) => [] ++ u)) (va_A ([] ++ pl) sz)) 0 0 (va_A ([] ++ pl) sz) := by
  sorry
set_option maxHeartbeats 400000 in
set_option maxRecDepth 100000 in
theorem t_DA_writeSmallVectors_2 (l : Launch) (g : Gd) (sz : Nat) (T : Ty) (xs : List Nat) (pl : va_W) (hO : okx g T xs pl) (hU : uni T) (hc0 : clo T xs 0) (hc4 : clo T xs 4) (h0 st sk : Nat) (k_h0 : T h0 = some (15, 0)) (k_st : T st = some (45, 0)) (k_sk : T sk = some (1, 4896))  : Met l y_DA_writeSmallVectors w_DA_writeSmallVectors ({ frames := 5, cells := 0, slots := 0, locals := 151 } : Room) (va_Pc [.ref h0, .ref st, .ref sk] (pr (en g) g.1 vcl sz ([] ++ pl))) (va_Qv (fun (u : va_W) => (True) ∧ okx g T xs u) (po g.1 vcl (va_A ([] ++ pl) sz) (fun (u : va_W) => [] ++ u)) (va_A ([] ++ pl) sz)) 0 0 (va_A ([] ++ pl) sz) := by
  sorry
set_option maxHeartbeats 400000 in
set_option maxRecDepth 100000 in
theorem t_DA_makePair_0 (l : Launch) (g : Gd) (sz : Nat) (T : Ty) (xs : List Nat) (pl : va_W) (hO : okx g T xs pl) (hU : uni T) (hc0 : clo T xs 0) (hc3 : clo T xs 3) (hc4 : clo T xs 4) (h0 st ch pk sk n : Nat) (k_h0 : T h0 = some (15, 0)) (k_st : T st = some (43, 0)) (k_ch : T ch = some (1, n)) (k_pk : T pk = some (1, 1312)) (k_sk : T sk = some (1, 2560)) (h1 : 32 ≤ n) (h2 : n < 65536)  : Met l y_DA_makePair w_DA_makePair ({ frames := 6, cells := 0, slots := 0, locals := 176 } : Room) (va_Pc [.ref h0, .ref st, .ref ch, .ref pk, .ref sk] (pr (en g) g.1 vcl sz ([] ++ pl))) (va_Qv (fun (u : va_W) => (True) ∧ okx g T xs u) (po g.1 vcl (va_A ([] ++ pl) sz) (fun (u : va_W) => [] ++ u)) (va_A ([] ++ pl) sz)) 0 0 (va_A ([] ++ pl) sz) := by
  sorry
set_option maxHeartbeats 400000 in
set_option maxRecDepth 100000 in
theorem t_DA_makePair_1 (l : Launch) (g : Gd) (sz : Nat) (T : Ty) (xs : List Nat) (pl : va_W) (hO : okx g T xs pl) (hU : uni T) (hc0 : clo T xs 0) (hc3 : clo T xs 3) (hc4 : clo T xs 4) (h0 st ch pk sk n : Nat) (k_h0 : T h0 = some (15, 0)) (k_st : T st = some (44, 0)) (k_ch : T ch = some (1, n)) (k_pk : T pk = some (1, 1952)) (k_sk : T sk = some (1, 4032)) (h1 : 32 ≤ n) (h2 : n < 65536)  : Met l y_DA_makePair w_DA_makePair ({ frames := 6, cells := 0, slots := 0, locals := 176 } : Room) (va_Pc [.ref h0, .ref st, .ref ch, .ref pk, .ref sk] (pr (en g) g.1 vcl sz ([] ++ pl))) (va_Qv (fun (u : va_W) => (True) ∧ okx g T xs u) (po g.1 vcl (va_A ([] ++ pl) sz) (fun (u : va_W) => [] ++ u)) (va_A ([] ++ pl) sz)) 0 0 (va_A ([] ++ pl) sz) := by
  sorry
set_option maxHeartbeats 400000 in
set_option maxRecDepth 100000 in
theorem t_DA_makePair_2 (l : Launch) (g : Gd) (sz : Nat) (T : Ty) (xs : List Nat) (pl : va_W) (hO : okx g T xs pl) (hU : uni T) (hc0 : clo T xs 0) (hc3 : clo T xs 3) (hc4 : clo T xs 4) (h0 st ch pk sk n : Nat) (k_h0 : T h0 = some (15, 0)) (k_st : T st = some (45, 0)) (k_ch : T ch = some (1, n)) (k_pk : T pk = some (1, 2592)) (k_sk : T sk = some (1, 4896)) (h1 : 32 ≤ n) (h2 : n < 65536)  : Met l y_DA_makePair w_DA_makePair ({ frames := 6, cells := 0, slots := 0, locals := 176 } : Room) (va_Pc [.ref h0, .ref st, .ref ch, .ref pk, .ref sk] (pr (en g) g.1 vcl sz ([] ++ pl))) (va_Qv (fun (u : va_W) => (True) ∧ okx g T xs u) (po g.1 vcl (va_A ([] ++ pl) sz) (fun (u : va_W) => [] ++ u)) (va_A ([] ++ pl) sz)) 0 0 (va_A ([] ++ pl) sz) := by
  sorry
