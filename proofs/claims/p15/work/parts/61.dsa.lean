abbrev c_DA_digestOf : ByteArray := prog_3_method_8_code
abbrev y_DA_digestOf : MethodName := ⟨"LatticeKeys$Dsa", "digestOf", "([B)V"⟩
abbrev w_DA_digestOf : List Cond := Cond.code y_DA_digestOf c_DA_digestOf 2 none :: WG
theorem dDA_digestOf_0 : decode c_DA_digestOf 0 = .ok (.aload_n 0, 1) := by decide +kernel
theorem dDA_digestOf_1 : decode c_DA_digestOf 1 = .ok (.getfield 10, 3) := by decide +kernel
theorem dDA_digestOf_4 : decode c_DA_digestOf 4 = .ok (.iconst 3, 1) := by decide +kernel
theorem dDA_digestOf_5 : decode c_DA_digestOf 5 = .ok (.invokevirtual 79, 3) := by decide +kernel
theorem dDA_digestOf_8 : decode c_DA_digestOf 8 = .ok (.aload_n 0, 1) := by decide +kernel
theorem dDA_digestOf_9 : decode c_DA_digestOf 9 = .ok (.getfield 10, 3) := by decide +kernel
theorem dDA_digestOf_12 : decode c_DA_digestOf 12 = .ok (.aload_n 1, 1) := by decide +kernel
theorem dDA_digestOf_13 : decode c_DA_digestOf 13 = .ok (.iconst 0, 1) := by decide +kernel
theorem dDA_digestOf_14 : decode c_DA_digestOf 14 = .ok (.aload_n 1, 1) := by decide +kernel
theorem dDA_digestOf_15 : decode c_DA_digestOf 15 = .ok (.arraylength, 1) := by decide +kernel
theorem dDA_digestOf_16 : decode c_DA_digestOf 16 = .ok (.invokevirtual 83, 3) := by decide +kernel
theorem dDA_digestOf_19 : decode c_DA_digestOf 19 = .ok (.aload_n 0, 1) := by decide +kernel
theorem dDA_digestOf_20 : decode c_DA_digestOf 20 = .ok (.getfield 10, 3) := by decide +kernel
theorem dDA_digestOf_23 : decode c_DA_digestOf 23 = .ok (.invokevirtual 99, 3) := by decide +kernel
theorem dDA_digestOf_26 : decode c_DA_digestOf 26 = .ok (.aload_n 0, 1) := by decide +kernel
theorem dDA_digestOf_27 : decode c_DA_digestOf 27 = .ok (.getfield 10, 3) := by decide +kernel
theorem dDA_digestOf_30 : decode c_DA_digestOf 30 = .ok (.aload_n 0, 1) := by decide +kernel
theorem dDA_digestOf_31 : decode c_DA_digestOf 31 = .ok (.getfield 64, 3) := by decide +kernel
theorem dDA_digestOf_34 : decode c_DA_digestOf 34 = .ok (.iconst 0, 1) := by decide +kernel
theorem dDA_digestOf_35 : decode c_DA_digestOf 35 = .ok (.bipush 64, 2) := by decide +kernel
theorem dDA_digestOf_37 : decode c_DA_digestOf 37 = .ok (.invokevirtual 102, 3) := by decide +kernel
theorem dDA_digestOf_40 : decode c_DA_digestOf 40 = .ok (.return_, 1) := by decide +kernel
abbrev c_DA_digestMessage : ByteArray := prog_3_method_9_code
abbrev y_DA_digestMessage : MethodName := ⟨"LatticeKeys$Dsa", "digestMessage", "([BIII)V"⟩
abbrev w_DA_digestMessage : List Cond := Cond.code y_DA_digestMessage c_DA_digestMessage 5 none :: WG
theorem dDA_digestMessage_0 : decode c_DA_digestMessage 0 = .ok (.aload_n 0, 1) := by decide +kernel
theorem dDA_digestMessage_1 : decode c_DA_digestMessage 1 = .ok (.getfield 10, 3) := by decide +kernel
theorem dDA_digestMessage_4 : decode c_DA_digestMessage 4 = .ok (.iconst 3, 1) := by decide +kernel
theorem dDA_digestMessage_5 : decode c_DA_digestMessage 5 = .ok (.invokevirtual 79, 3) := by decide +kernel
theorem dDA_digestMessage_8 : decode c_DA_digestMessage 8 = .ok (.aload_n 0, 1) := by decide +kernel
theorem dDA_digestMessage_9 : decode c_DA_digestMessage 9 = .ok (.getfield 10, 3) := by decide +kernel
theorem dDA_digestMessage_12 : decode c_DA_digestMessage 12 = .ok (.aload_n 0, 1) := by decide +kernel
theorem dDA_digestMessage_13 : decode c_DA_digestMessage 13 = .ok (.getfield 64, 3) := by decide +kernel
theorem dDA_digestMessage_16 : decode c_DA_digestMessage 16 = .ok (.iconst 0, 1) := by decide +kernel
theorem dDA_digestMessage_17 : decode c_DA_digestMessage 17 = .ok (.bipush 64, 2) := by decide +kernel
theorem dDA_digestMessage_19 : decode c_DA_digestMessage 19 = .ok (.invokevirtual 83, 3) := by decide +kernel
theorem dDA_digestMessage_22 : decode c_DA_digestMessage 22 = .ok (.aload_n 0, 1) := by decide +kernel
theorem dDA_digestMessage_23 : decode c_DA_digestMessage 23 = .ok (.getfield 10, 3) := by decide +kernel
theorem dDA_digestMessage_26 : decode c_DA_digestMessage 26 = .ok (.iconst 0, 1) := by decide +kernel
theorem dDA_digestMessage_27 : decode c_DA_digestMessage 27 = .ok (.invokevirtual 93, 3) := by decide +kernel
theorem dDA_digestMessage_30 : decode c_DA_digestMessage 30 = .ok (.aload_n 0, 1) := by decide +kernel
theorem dDA_digestMessage_31 : decode c_DA_digestMessage 31 = .ok (.getfield 10, 3) := by decide +kernel
theorem dDA_digestMessage_34 : decode c_DA_digestMessage 34 = .ok (.iload 4, 2) := by decide +kernel
theorem dDA_digestMessage_36 : decode c_DA_digestMessage 36 = .ok (.invokevirtual 93, 3) := by decide +kernel
theorem dDA_digestMessage_39 : decode c_DA_digestMessage 39 = .ok (.aload_n 0, 1) := by decide +kernel
theorem dDA_digestMessage_40 : decode c_DA_digestMessage 40 = .ok (.getfield 10, 3) := by decide +kernel
theorem dDA_digestMessage_43 : decode c_DA_digestMessage 43 = .ok (.aload_n 1, 1) := by decide +kernel
theorem dDA_digestMessage_44 : decode c_DA_digestMessage 44 = .ok (.iload_n 2, 1) := by decide +kernel
theorem dDA_digestMessage_45 : decode c_DA_digestMessage 45 = .ok (.iload_n 3, 1) := by decide +kernel
theorem dDA_digestMessage_46 : decode c_DA_digestMessage 46 = .ok (.iload_n 2, 1) := by decide +kernel
theorem dDA_digestMessage_47 : decode c_DA_digestMessage 47 = .ok (.isub, 1) := by decide +kernel
theorem dDA_digestMessage_48 : decode c_DA_digestMessage 48 = .ok (.invokevirtual 83, 3) := by decide +kernel
theorem dDA_digestMessage_51 : decode c_DA_digestMessage 51 = .ok (.aload_n 0, 1) := by decide +kernel
theorem dDA_digestMessage_52 : decode c_DA_digestMessage 52 = .ok (.getfield 10, 3) := by decide +kernel
theorem dDA_digestMessage_55 : decode c_DA_digestMessage 55 = .ok (.invokevirtual 99, 3) := by decide +kernel
theorem dDA_digestMessage_58 : decode c_DA_digestMessage 58 = .ok (.aload_n 0, 1) := by decide +kernel
theorem dDA_digestMessage_59 : decode c_DA_digestMessage 59 = .ok (.getfield 10, 3) := by decide +kernel
theorem dDA_digestMessage_62 : decode c_DA_digestMessage 62 = .ok (.aload_n 0, 1) := by decide +kernel
theorem dDA_digestMessage_63 : decode c_DA_digestMessage 63 = .ok (.getfield 64, 3) := by decide +kernel
theorem dDA_digestMessage_66 : decode c_DA_digestMessage 66 = .ok (.iconst 0, 1) := by decide +kernel
theorem dDA_digestMessage_67 : decode c_DA_digestMessage 67 = .ok (.bipush 64, 2) := by decide +kernel
theorem dDA_digestMessage_69 : decode c_DA_digestMessage 69 = .ok (.invokevirtual 102, 3) := by decide +kernel
theorem dDA_digestMessage_72 : decode c_DA_digestMessage 72 = .ok (.return_, 1) := by decide +kernel
abbrev c_DA_readFlipped : ByteArray := prog_3_method_7_code
abbrev y_DA_readFlipped : MethodName := ⟨"LatticeKeys$Dsa", "readFlipped", "([III[BI)V"⟩
abbrev w_DA_readFlipped : List Cond := Cond.code y_DA_readFlipped c_DA_readFlipped 6 none :: WG
theorem dDA_readFlipped_0 : decode c_DA_readFlipped 0 = .ok (.aload_n 1, 1) := by decide +kernel
theorem dDA_readFlipped_1 : decode c_DA_readFlipped 1 = .ok (.iload_n 2, 1) := by decide +kernel
theorem dDA_readFlipped_2 : decode c_DA_readFlipped 2 = .ok (.aload 4, 2) := by decide +kernel
theorem dDA_readFlipped_4 : decode c_DA_readFlipped 4 = .ok (.iload 5, 2) := by decide +kernel
theorem dDA_readFlipped_6 : decode c_DA_readFlipped 6 = .ok (.invokestatic 189, 3) := by decide +kernel
theorem dDA_readFlipped_9 : decode c_DA_readFlipped 9 = .ok (.aload_n 0, 1) := by decide +kernel
theorem dDA_readFlipped_10 : decode c_DA_readFlipped 10 = .ok (.getfield 22, 3) := by decide +kernel
theorem dDA_readFlipped_13 : decode c_DA_readFlipped 13 = .ok (.aload_n 1, 1) := by decide +kernel
theorem dDA_readFlipped_14 : decode c_DA_readFlipped 14 = .ok (.iload_n 3, 1) := by decide +kernel
theorem dDA_readFlipped_15 : decode c_DA_readFlipped 15 = .ok (.aload_n 1, 1) := by decide +kernel
theorem dDA_readFlipped_16 : decode c_DA_readFlipped 16 = .ok (.invokevirtual 157, 3) := by decide +kernel
theorem dDA_readFlipped_19 : decode c_DA_readFlipped 19 = .ok (.return_, 1) := by decide +kernel
abbrev c_DA_splitRow : ByteArray := prog_3_method_4_code
abbrev y_DA_splitRow : MethodName := ⟨"LatticeKeys$Dsa", "splitRow", "([I)V"⟩
abbrev w_DA_splitRow : List Cond := Cond.code y_DA_splitRow c_DA_splitRow 5 none :: WG
theorem dDA_splitRow_0 : decode c_DA_splitRow 0 = .ok (.sipush 4096, 3) := by decide +kernel
theorem dDA_splitRow_3 : decode c_DA_splitRow 3 = .ok (.istore_n 2, 1) := by decide +kernel
theorem dDA_splitRow_4 : decode c_DA_splitRow 4 = .ok (.iconst 0, 1) := by decide +kernel
theorem dDA_splitRow_5 : decode c_DA_splitRow 5 = .ok (.istore_n 3, 1) := by decide +kernel
theorem dDA_splitRow_6 : decode c_DA_splitRow 6 = .ok (.iload_n 3, 1) := by decide +kernel
theorem dDA_splitRow_7 : decode c_DA_splitRow 7 = .ok (.sipush 256, 3) := by decide +kernel
theorem dDA_splitRow_10 : decode c_DA_splitRow 10 = .ok (.if_icmp .ge 61, 3) := by decide +kernel
theorem dDA_splitRow_13 : decode c_DA_splitRow 13 = .ok (.aload_n 1, 1) := by decide +kernel
theorem dDA_splitRow_14 : decode c_DA_splitRow 14 = .ok (.iload_n 3, 1) := by decide +kernel
theorem dDA_splitRow_15 : decode c_DA_splitRow 15 = .ok (.iaload, 1) := by decide +kernel
theorem dDA_splitRow_16 : decode c_DA_splitRow 16 = .ok (.iconst 2, 1) := by decide +kernel
theorem dDA_splitRow_17 : decode c_DA_splitRow 17 = .ok (.iload_n 2, 1) := by decide +kernel
theorem dDA_splitRow_18 : decode c_DA_splitRow 18 = .ok (.imul, 1) := by decide +kernel
theorem dDA_splitRow_19 : decode c_DA_splitRow 19 = .ok (.iconst 1, 1) := by decide +kernel
theorem dDA_splitRow_20 : decode c_DA_splitRow 20 = .ok (.isub, 1) := by decide +kernel
theorem dDA_splitRow_21 : decode c_DA_splitRow 21 = .ok (.iand, 1) := by decide +kernel
theorem dDA_splitRow_22 : decode c_DA_splitRow 22 = .ok (.istore 4, 2) := by decide +kernel
theorem dDA_splitRow_24 : decode c_DA_splitRow 24 = .ok (.iload 4, 2) := by decide +kernel
theorem dDA_splitRow_26 : decode c_DA_splitRow 26 = .ok (.iload_n 2, 1) := by decide +kernel
theorem dDA_splitRow_27 : decode c_DA_splitRow 27 = .ok (.if_icmp .le 12, 3) := by decide +kernel
theorem dDA_splitRow_30 : decode c_DA_splitRow 30 = .ok (.iload 4, 2) := by decide +kernel
theorem dDA_splitRow_32 : decode c_DA_splitRow 32 = .ok (.iconst 2, 1) := by decide +kernel
theorem dDA_splitRow_33 : decode c_DA_splitRow 33 = .ok (.iload_n 2, 1) := by decide +kernel
theorem dDA_splitRow_34 : decode c_DA_splitRow 34 = .ok (.imul, 1) := by decide +kernel
theorem dDA_splitRow_35 : decode c_DA_splitRow 35 = .ok (.isub, 1) := by decide +kernel
theorem dDA_splitRow_36 : decode c_DA_splitRow 36 = .ok (.goto 5, 3) := by decide +kernel
theorem dDA_splitRow_39 : decode c_DA_splitRow 39 = .ok (.iload 4, 2) := by decide +kernel
theorem dDA_splitRow_41 : decode c_DA_splitRow 41 = .ok (.istore 4, 2) := by decide +kernel
theorem dDA_splitRow_43 : decode c_DA_splitRow 43 = .ok (.aload_n 0, 1) := by decide +kernel
theorem dDA_splitRow_44 : decode c_DA_splitRow 44 = .ok (.getfield 57, 3) := by decide +kernel
theorem dDA_splitRow_47 : decode c_DA_splitRow 47 = .ok (.iload_n 3, 1) := by decide +kernel
theorem dDA_splitRow_48 : decode c_DA_splitRow 48 = .ok (.iload_n 2, 1) := by decide +kernel
theorem dDA_splitRow_49 : decode c_DA_splitRow 49 = .ok (.iload 4, 2) := by decide +kernel
theorem dDA_splitRow_51 : decode c_DA_splitRow 51 = .ok (.isub, 1) := by decide +kernel
theorem dDA_splitRow_52 : decode c_DA_splitRow 52 = .ok (.iastore, 1) := by decide +kernel
theorem dDA_splitRow_53 : decode c_DA_splitRow 53 = .ok (.aload_n 1, 1) := by decide +kernel
theorem dDA_splitRow_54 : decode c_DA_splitRow 54 = .ok (.iload_n 3, 1) := by decide +kernel
theorem dDA_splitRow_55 : decode c_DA_splitRow 55 = .ok (.aload_n 1, 1) := by decide +kernel
theorem dDA_splitRow_56 : decode c_DA_splitRow 56 = .ok (.iload_n 3, 1) := by decide +kernel
theorem dDA_splitRow_57 : decode c_DA_splitRow 57 = .ok (.iaload, 1) := by decide +kernel
theorem dDA_splitRow_58 : decode c_DA_splitRow 58 = .ok (.iload 4, 2) := by decide +kernel
theorem dDA_splitRow_60 : decode c_DA_splitRow 60 = .ok (.isub, 1) := by decide +kernel
theorem dDA_splitRow_61 : decode c_DA_splitRow 61 = .ok (.bipush 13, 2) := by decide +kernel
theorem dDA_splitRow_63 : decode c_DA_splitRow 63 = .ok (.ishr, 1) := by decide +kernel
theorem dDA_splitRow_64 : decode c_DA_splitRow 64 = .ok (.iastore, 1) := by decide +kernel
theorem dDA_splitRow_65 : decode c_DA_splitRow 65 = .ok (.iinc 3 1, 3) := by decide +kernel
theorem dDA_splitRow_68 : decode c_DA_splitRow 68 = .ok (.goto (-62), 3) := by decide +kernel
theorem dDA_splitRow_71 : decode c_DA_splitRow 71 = .ok (.return_, 1) := by decide +kernel
abbrev c_DA_multiplyBall : ByteArray := prog_3_method_14_code
abbrev y_DA_multiplyBall : MethodName := ⟨"LatticeKeys$Dsa", "multiplyBall", "([I)V"⟩
abbrev w_DA_multiplyBall : List Cond := Cond.code y_DA_multiplyBall c_DA_multiplyBall 2 none :: WG
theorem dDA_multiplyBall_0 : decode c_DA_multiplyBall 0 = .ok (.aload_n 0, 1) := by decide +kernel
theorem dDA_multiplyBall_1 : decode c_DA_multiplyBall 1 = .ok (.getfield 57, 3) := by decide +kernel
theorem dDA_multiplyBall_4 : decode c_DA_multiplyBall 4 = .ok (.iconst 0, 1) := by decide +kernel
theorem dDA_multiplyBall_5 : decode c_DA_multiplyBall 5 = .ok (.invokestatic 192, 3) := by decide +kernel
theorem dDA_multiplyBall_8 : decode c_DA_multiplyBall 8 = .ok (.aload_n 0, 1) := by decide +kernel
theorem dDA_multiplyBall_9 : decode c_DA_multiplyBall 9 = .ok (.getfield 22, 3) := by decide +kernel
theorem dDA_multiplyBall_12 : decode c_DA_multiplyBall 12 = .ok (.aload_n 0, 1) := by decide +kernel
theorem dDA_multiplyBall_13 : decode c_DA_multiplyBall 13 = .ok (.getfield 57, 3) := by decide +kernel
theorem dDA_multiplyBall_16 : decode c_DA_multiplyBall 16 = .ok (.aload_n 0, 1) := by decide +kernel
theorem dDA_multiplyBall_17 : decode c_DA_multiplyBall 17 = .ok (.getfield 53, 3) := by decide +kernel
theorem dDA_multiplyBall_20 : decode c_DA_multiplyBall 20 = .ok (.aload_n 1, 1) := by decide +kernel
theorem dDA_multiplyBall_21 : decode c_DA_multiplyBall 21 = .ok (.invokevirtual 205, 3) := by decide +kernel
theorem dDA_multiplyBall_24 : decode c_DA_multiplyBall 24 = .ok (.aload_n 0, 1) := by decide +kernel
theorem dDA_multiplyBall_25 : decode c_DA_multiplyBall 25 = .ok (.getfield 22, 3) := by decide +kernel
theorem dDA_multiplyBall_28 : decode c_DA_multiplyBall 28 = .ok (.aload_n 0, 1) := by decide +kernel
theorem dDA_multiplyBall_29 : decode c_DA_multiplyBall 29 = .ok (.getfield 57, 3) := by decide +kernel
theorem dDA_multiplyBall_32 : decode c_DA_multiplyBall 32 = .ok (.invokevirtual 130, 3) := by decide +kernel
theorem dDA_multiplyBall_35 : decode c_DA_multiplyBall 35 = .ok (.return_, 1) := by decide +kernel
abbrev c_DA_multiplyRow : ByteArray := prog_3_method_13_code
abbrev y_DA_multiplyRow : MethodName := ⟨"LatticeKeys$Dsa", "multiplyRow", "(LLatticeKeys$DsaSet;I[[I)V"⟩
abbrev w_DA_multiplyRow : List Cond := Cond.code y_DA_multiplyRow c_DA_multiplyRow 5 none :: WG
theorem dDA_multiplyRow_0 : decode c_DA_multiplyRow 0 = .ok (.aload_n 0, 1) := by decide +kernel
theorem dDA_multiplyRow_1 : decode c_DA_multiplyRow 1 = .ok (.getfield 50, 3) := by decide +kernel
theorem dDA_multiplyRow_4 : decode c_DA_multiplyRow 4 = .ok (.iload_n 2, 1) := by decide +kernel
theorem dDA_multiplyRow_5 : decode c_DA_multiplyRow 5 = .ok (.aaload, 1) := by decide +kernel
theorem dDA_multiplyRow_6 : decode c_DA_multiplyRow 6 = .ok (.iconst 0, 1) := by decide +kernel
theorem dDA_multiplyRow_7 : decode c_DA_multiplyRow 7 = .ok (.invokestatic 192, 3) := by decide +kernel
theorem dDA_multiplyRow_10 : decode c_DA_multiplyRow 10 = .ok (.iconst 0, 1) := by decide +kernel
theorem dDA_multiplyRow_11 : decode c_DA_multiplyRow 11 = .ok (.istore 4, 2) := by decide +kernel
theorem dDA_multiplyRow_13 : decode c_DA_multiplyRow 13 = .ok (.iload 4, 2) := by decide +kernel
theorem dDA_multiplyRow_15 : decode c_DA_multiplyRow 15 = .ok (.aload_n 1, 1) := by decide +kernel
theorem dDA_multiplyRow_16 : decode c_DA_multiplyRow 16 = .ok (.getfield 96, 3) := by decide +kernel
theorem dDA_multiplyRow_19 : decode c_DA_multiplyRow 19 = .ok (.if_icmp .ge 40, 3) := by decide +kernel
theorem dDA_multiplyRow_22 : decode c_DA_multiplyRow 22 = .ok (.aload_n 0, 1) := by decide +kernel
theorem dDA_multiplyRow_23 : decode c_DA_multiplyRow 23 = .ok (.getfield 22, 3) := by decide +kernel
theorem dDA_multiplyRow_26 : decode c_DA_multiplyRow 26 = .ok (.aload_n 0, 1) := by decide +kernel
theorem dDA_multiplyRow_27 : decode c_DA_multiplyRow 27 = .ok (.getfield 50, 3) := by decide +kernel
theorem dDA_multiplyRow_30 : decode c_DA_multiplyRow 30 = .ok (.iload_n 2, 1) := by decide +kernel
theorem dDA_multiplyRow_31 : decode c_DA_multiplyRow 31 = .ok (.aaload, 1) := by decide +kernel
theorem dDA_multiplyRow_32 : decode c_DA_multiplyRow 32 = .ok (.aload_n 0, 1) := by decide +kernel
theorem dDA_multiplyRow_33 : decode c_DA_multiplyRow 33 = .ok (.getfield 35, 3) := by decide +kernel
theorem dDA_multiplyRow_36 : decode c_DA_multiplyRow 36 = .ok (.aload_n 1, 1) := by decide +kernel
theorem dDA_multiplyRow_37 : decode c_DA_multiplyRow 37 = .ok (.getfield 96, 3) := by decide +kernel
theorem dDA_multiplyRow_40 : decode c_DA_multiplyRow 40 = .ok (.iload_n 2, 1) := by decide +kernel
theorem dDA_multiplyRow_41 : decode c_DA_multiplyRow 41 = .ok (.imul, 1) := by decide +kernel
theorem dDA_multiplyRow_42 : decode c_DA_multiplyRow 42 = .ok (.iload 4, 2) := by decide +kernel
theorem dDA_multiplyRow_44 : decode c_DA_multiplyRow 44 = .ok (.iadd, 1) := by decide +kernel
theorem dDA_multiplyRow_45 : decode c_DA_multiplyRow 45 = .ok (.aaload, 1) := by decide +kernel
theorem dDA_multiplyRow_46 : decode c_DA_multiplyRow 46 = .ok (.aload_n 3, 1) := by decide +kernel
theorem dDA_multiplyRow_47 : decode c_DA_multiplyRow 47 = .ok (.iload 4, 2) := by decide +kernel
theorem dDA_multiplyRow_49 : decode c_DA_multiplyRow 49 = .ok (.aaload, 1) := by decide +kernel
theorem dDA_multiplyRow_50 : decode c_DA_multiplyRow 50 = .ok (.invokevirtual 205, 3) := by decide +kernel
theorem dDA_multiplyRow_53 : decode c_DA_multiplyRow 53 = .ok (.iinc 4 1, 3) := by decide +kernel
theorem dDA_multiplyRow_56 : decode c_DA_multiplyRow 56 = .ok (.goto (-43), 3) := by decide +kernel
theorem dDA_multiplyRow_59 : decode c_DA_multiplyRow 59 = .ok (.return_, 1) := by decide +kernel
abbrev c_DA_readSecret : ByteArray := prog_3_method_6_code
abbrev y_DA_readSecret : MethodName := ⟨"LatticeKeys$Dsa", "readSecret", "(LLatticeKeys$DsaSet;[B)V"⟩
abbrev w_DA_readSecret : List Cond := Cond.code y_DA_readSecret c_DA_readSecret 5 none :: WG
theorem dDA_readSecret_0 : decode c_DA_readSecret 0 = .ok (.aload_n 0, 1) := by decide +kernel
theorem dDA_readSecret_1 : decode c_DA_readSecret 1 = .ok (.getfield 29, 3) := by decide +kernel
theorem dDA_readSecret_4 : decode c_DA_readSecret 4 = .ok (.aload_n 1, 1) := by decide +kernel
theorem dDA_readSecret_5 : decode c_DA_readSecret 5 = .ok (.aload_n 2, 1) := by decide +kernel
theorem dDA_readSecret_6 : decode c_DA_readSecret 6 = .ok (.aload_n 0, 1) := by decide +kernel
theorem dDA_readSecret_7 : decode c_DA_readSecret 7 = .ok (.getfield 35, 3) := by decide +kernel
theorem dDA_readSecret_10 : decode c_DA_readSecret 10 = .ok (.invokevirtual 115, 3) := by decide +kernel
theorem dDA_readSecret_13 : decode c_DA_readSecret 13 = .ok (.sipush 128, 3) := by decide +kernel
theorem dDA_readSecret_16 : decode c_DA_readSecret 16 = .ok (.istore_n 3, 1) := by decide +kernel
theorem dDA_readSecret_17 : decode c_DA_readSecret 17 = .ok (.iconst 0, 1) := by decide +kernel
theorem dDA_readSecret_18 : decode c_DA_readSecret 18 = .ok (.istore 4, 2) := by decide +kernel
theorem dDA_readSecret_20 : decode c_DA_readSecret 20 = .ok (.iload 4, 2) := by decide +kernel
theorem dDA_readSecret_22 : decode c_DA_readSecret 22 = .ok (.aload_n 1, 1) := by decide +kernel
theorem dDA_readSecret_23 : decode c_DA_readSecret 23 = .ok (.getfield 96, 3) := by decide +kernel
theorem dDA_readSecret_26 : decode c_DA_readSecret 26 = .ok (.if_icmp .ge 54, 3) := by decide +kernel
theorem dDA_readSecret_29 : decode c_DA_readSecret 29 = .ok (.aload_n 0, 1) := by decide +kernel
theorem dDA_readSecret_30 : decode c_DA_readSecret 30 = .ok (.aload_n 0, 1) := by decide +kernel
theorem dDA_readSecret_31 : decode c_DA_readSecret 31 = .ok (.getfield 38, 3) := by decide +kernel
theorem dDA_readSecret_34 : decode c_DA_readSecret 34 = .ok (.iload 4, 2) := by decide +kernel
theorem dDA_readSecret_36 : decode c_DA_readSecret 36 = .ok (.aaload, 1) := by decide +kernel
theorem dDA_readSecret_37 : decode c_DA_readSecret 37 = .ok (.aload_n 1, 1) := by decide +kernel
theorem dDA_readSecret_38 : decode c_DA_readSecret 38 = .ok (.getfield 123, 3) := by decide +kernel
theorem dDA_readSecret_41 : decode c_DA_readSecret 41 = .ok (.aload_n 1, 1) := by decide +kernel
theorem dDA_readSecret_42 : decode c_DA_readSecret 42 = .ok (.getfield 154, 3) := by decide +kernel
theorem dDA_readSecret_45 : decode c_DA_readSecret 45 = .ok (.aload_n 2, 1) := by decide +kernel
theorem dDA_readSecret_46 : decode c_DA_readSecret 46 = .ok (.iload_n 3, 1) := by decide +kernel
theorem dDA_readSecret_47 : decode c_DA_readSecret 47 = .ok (.invokevirtual 185, 3) := by decide +kernel
theorem dDA_readSecret_50 : decode c_DA_readSecret 50 = .ok (.aload_n 0, 1) := by decide +kernel
theorem dDA_readSecret_51 : decode c_DA_readSecret 51 = .ok (.getfield 22, 3) := by decide +kernel
theorem dDA_readSecret_54 : decode c_DA_readSecret 54 = .ok (.aload_n 0, 1) := by decide +kernel
theorem dDA_readSecret_55 : decode c_DA_readSecret 55 = .ok (.getfield 38, 3) := by decide +kernel
theorem dDA_readSecret_58 : decode c_DA_readSecret 58 = .ok (.iload 4, 2) := by decide +kernel
theorem dDA_readSecret_60 : decode c_DA_readSecret 60 = .ok (.aaload, 1) := by decide +kernel
theorem dDA_readSecret_61 : decode c_DA_readSecret 61 = .ok (.invokevirtual 119, 3) := by decide +kernel
theorem dDA_readSecret_64 : decode c_DA_readSecret 64 = .ok (.iload_n 3, 1) := by decide +kernel
theorem dDA_readSecret_65 : decode c_DA_readSecret 65 = .ok (.bipush 32, 2) := by decide +kernel
theorem dDA_readSecret_67 : decode c_DA_readSecret 67 = .ok (.aload_n 1, 1) := by decide +kernel
theorem dDA_readSecret_68 : decode c_DA_readSecret 68 = .ok (.getfield 123, 3) := by decide +kernel
theorem dDA_readSecret_71 : decode c_DA_readSecret 71 = .ok (.imul, 1) := by decide +kernel
theorem dDA_readSecret_72 : decode c_DA_readSecret 72 = .ok (.iadd, 1) := by decide +kernel
theorem dDA_readSecret_73 : decode c_DA_readSecret 73 = .ok (.istore_n 3, 1) := by decide +kernel
theorem dDA_readSecret_74 : decode c_DA_readSecret 74 = .ok (.iinc 4 1, 3) := by decide +kernel
theorem dDA_readSecret_77 : decode c_DA_readSecret 77 = .ok (.goto (-57), 3) := by decide +kernel
theorem dDA_readSecret_80 : decode c_DA_readSecret 80 = .ok (.iconst 0, 1) := by decide +kernel
theorem dDA_readSecret_81 : decode c_DA_readSecret 81 = .ok (.istore 4, 2) := by decide +kernel
theorem dDA_readSecret_83 : decode c_DA_readSecret 83 = .ok (.iload 4, 2) := by decide +kernel
theorem dDA_readSecret_85 : decode c_DA_readSecret 85 = .ok (.aload_n 1, 1) := by decide +kernel
theorem dDA_readSecret_86 : decode c_DA_readSecret 86 = .ok (.getfield 87, 3) := by decide +kernel
theorem dDA_readSecret_89 : decode c_DA_readSecret 89 = .ok (.if_icmp .ge 54, 3) := by decide +kernel
theorem dDA_readSecret_92 : decode c_DA_readSecret 92 = .ok (.aload_n 0, 1) := by decide +kernel
theorem dDA_readSecret_93 : decode c_DA_readSecret 93 = .ok (.aload_n 0, 1) := by decide +kernel
theorem dDA_readSecret_94 : decode c_DA_readSecret 94 = .ok (.getfield 41, 3) := by decide +kernel
theorem dDA_readSecret_97 : decode c_DA_readSecret 97 = .ok (.iload 4, 2) := by decide +kernel
theorem dDA_readSecret_99 : decode c_DA_readSecret 99 = .ok (.aaload, 1) := by decide +kernel
theorem dDA_readSecret_100 : decode c_DA_readSecret 100 = .ok (.aload_n 1, 1) := by decide +kernel
theorem dDA_readSecret_101 : decode c_DA_readSecret 101 = .ok (.getfield 123, 3) := by decide +kernel
theorem dDA_readSecret_104 : decode c_DA_readSecret 104 = .ok (.aload_n 1, 1) := by decide +kernel
theorem dDA_readSecret_105 : decode c_DA_readSecret 105 = .ok (.getfield 154, 3) := by decide +kernel
theorem dDA_readSecret_108 : decode c_DA_readSecret 108 = .ok (.aload_n 2, 1) := by decide +kernel
theorem dDA_readSecret_109 : decode c_DA_readSecret 109 = .ok (.iload_n 3, 1) := by decide +kernel
theorem dDA_readSecret_110 : decode c_DA_readSecret 110 = .ok (.invokevirtual 185, 3) := by decide +kernel
theorem dDA_readSecret_113 : decode c_DA_readSecret 113 = .ok (.aload_n 0, 1) := by decide +kernel
theorem dDA_readSecret_114 : decode c_DA_readSecret 114 = .ok (.getfield 22, 3) := by decide +kernel
theorem dDA_readSecret_117 : decode c_DA_readSecret 117 = .ok (.aload_n 0, 1) := by decide +kernel
theorem dDA_readSecret_118 : decode c_DA_readSecret 118 = .ok (.getfield 41, 3) := by decide +kernel
theorem dDA_readSecret_121 : decode c_DA_readSecret 121 = .ok (.iload 4, 2) := by decide +kernel
theorem dDA_readSecret_123 : decode c_DA_readSecret 123 = .ok (.aaload, 1) := by decide +kernel
theorem dDA_readSecret_124 : decode c_DA_readSecret 124 = .ok (.invokevirtual 119, 3) := by decide +kernel
theorem dDA_readSecret_127 : decode c_DA_readSecret 127 = .ok (.iload_n 3, 1) := by decide +kernel
theorem dDA_readSecret_128 : decode c_DA_readSecret 128 = .ok (.bipush 32, 2) := by decide +kernel
theorem dDA_readSecret_130 : decode c_DA_readSecret 130 = .ok (.aload_n 1, 1) := by decide +kernel
theorem dDA_readSecret_131 : decode c_DA_readSecret 131 = .ok (.getfield 123, 3) := by decide +kernel
theorem dDA_readSecret_134 : decode c_DA_readSecret 134 = .ok (.imul, 1) := by decide +kernel
theorem dDA_readSecret_135 : decode c_DA_readSecret 135 = .ok (.iadd, 1) := by decide +kernel
theorem dDA_readSecret_136 : decode c_DA_readSecret 136 = .ok (.istore_n 3, 1) := by decide +kernel
theorem dDA_readSecret_137 : decode c_DA_readSecret 137 = .ok (.iinc 4 1, 3) := by decide +kernel
theorem dDA_readSecret_140 : decode c_DA_readSecret 140 = .ok (.goto (-57), 3) := by decide +kernel
theorem dDA_readSecret_143 : decode c_DA_readSecret 143 = .ok (.iconst 0, 1) := by decide +kernel
theorem dDA_readSecret_144 : decode c_DA_readSecret 144 = .ok (.istore 4, 2) := by decide +kernel
theorem dDA_readSecret_146 : decode c_DA_readSecret 146 = .ok (.iload 4, 2) := by decide +kernel
theorem dDA_readSecret_148 : decode c_DA_readSecret 148 = .ok (.aload_n 1, 1) := by decide +kernel
theorem dDA_readSecret_149 : decode c_DA_readSecret 149 = .ok (.getfield 87, 3) := by decide +kernel
theorem dDA_readSecret_152 : decode c_DA_readSecret 152 = .ok (.if_icmp .ge 47, 3) := by decide +kernel
theorem dDA_readSecret_155 : decode c_DA_readSecret 155 = .ok (.aload_n 0, 1) := by decide +kernel
theorem dDA_readSecret_156 : decode c_DA_readSecret 156 = .ok (.aload_n 0, 1) := by decide +kernel
theorem dDA_readSecret_157 : decode c_DA_readSecret 157 = .ok (.getfield 44, 3) := by decide +kernel
theorem dDA_readSecret_160 : decode c_DA_readSecret 160 = .ok (.iload 4, 2) := by decide +kernel
theorem dDA_readSecret_162 : decode c_DA_readSecret 162 = .ok (.aaload, 1) := by decide +kernel
theorem dDA_readSecret_163 : decode c_DA_readSecret 163 = .ok (.bipush 13, 2) := by decide +kernel
theorem dDA_readSecret_165 : decode c_DA_readSecret 165 = .ok (.sipush 4096, 3) := by decide +kernel
theorem dDA_readSecret_168 : decode c_DA_readSecret 168 = .ok (.aload_n 2, 1) := by decide +kernel
theorem dDA_readSecret_169 : decode c_DA_readSecret 169 = .ok (.iload_n 3, 1) := by decide +kernel
theorem dDA_readSecret_170 : decode c_DA_readSecret 170 = .ok (.invokevirtual 185, 3) := by decide +kernel
theorem dDA_readSecret_173 : decode c_DA_readSecret 173 = .ok (.aload_n 0, 1) := by decide +kernel
theorem dDA_readSecret_174 : decode c_DA_readSecret 174 = .ok (.getfield 22, 3) := by decide +kernel
theorem dDA_readSecret_177 : decode c_DA_readSecret 177 = .ok (.aload_n 0, 1) := by decide +kernel
theorem dDA_readSecret_178 : decode c_DA_readSecret 178 = .ok (.getfield 44, 3) := by decide +kernel
theorem dDA_readSecret_181 : decode c_DA_readSecret 181 = .ok (.iload 4, 2) := by decide +kernel
theorem dDA_readSecret_183 : decode c_DA_readSecret 183 = .ok (.aaload, 1) := by decide +kernel
theorem dDA_readSecret_184 : decode c_DA_readSecret 184 = .ok (.invokevirtual 119, 3) := by decide +kernel
theorem dDA_readSecret_187 : decode c_DA_readSecret 187 = .ok (.iinc 3 416, 6) := by decide +kernel
theorem dDA_readSecret_193 : decode c_DA_readSecret 193 = .ok (.iinc 4 1, 3) := by decide +kernel
theorem dDA_readSecret_196 : decode c_DA_readSecret 196 = .ok (.goto (-50), 3) := by decide +kernel
theorem dDA_readSecret_199 : decode c_DA_readSecret 199 = .ok (.return_, 1) := by decide +kernel
abbrev c_DA_writeSmallVectors : ByteArray := prog_3_method_3_code
abbrev y_DA_writeSmallVectors : MethodName := ⟨"LatticeKeys$Dsa", "writeSmallVectors", "(LLatticeKeys$DsaSet;[B)V"⟩
abbrev w_DA_writeSmallVectors : List Cond := Cond.code y_DA_writeSmallVectors c_DA_writeSmallVectors 6 none :: WG
theorem dDA_writeSmallVectors_0 : decode c_DA_writeSmallVectors 0 = .ok (.bipush 32, 2) := by decide +kernel
theorem dDA_writeSmallVectors_2 : decode c_DA_writeSmallVectors 2 = .ok (.aload_n 1, 1) := by decide +kernel
theorem dDA_writeSmallVectors_3 : decode c_DA_writeSmallVectors 3 = .ok (.getfield 123, 3) := by decide +kernel
theorem dDA_writeSmallVectors_6 : decode c_DA_writeSmallVectors 6 = .ok (.imul, 1) := by decide +kernel
theorem dDA_writeSmallVectors_7 : decode c_DA_writeSmallVectors 7 = .ok (.istore_n 3, 1) := by decide +kernel
theorem dDA_writeSmallVectors_8 : decode c_DA_writeSmallVectors 8 = .ok (.iconst 0, 1) := by decide +kernel
theorem dDA_writeSmallVectors_9 : decode c_DA_writeSmallVectors 9 = .ok (.istore 4, 2) := by decide +kernel
theorem dDA_writeSmallVectors_11 : decode c_DA_writeSmallVectors 11 = .ok (.iload 4, 2) := by decide +kernel
theorem dDA_writeSmallVectors_13 : decode c_DA_writeSmallVectors 13 = .ok (.aload_n 1, 1) := by decide +kernel
theorem dDA_writeSmallVectors_14 : decode c_DA_writeSmallVectors 14 = .ok (.getfield 96, 3) := by decide +kernel
theorem dDA_writeSmallVectors_17 : decode c_DA_writeSmallVectors 17 = .ok (.aload_n 1, 1) := by decide +kernel
theorem dDA_writeSmallVectors_18 : decode c_DA_writeSmallVectors 18 = .ok (.getfield 87, 3) := by decide +kernel
theorem dDA_writeSmallVectors_21 : decode c_DA_writeSmallVectors 21 = .ok (.iadd, 1) := by decide +kernel
theorem dDA_writeSmallVectors_22 : decode c_DA_writeSmallVectors 22 = .ok (.if_icmp .ge 97, 3) := by decide +kernel
theorem dDA_writeSmallVectors_25 : decode c_DA_writeSmallVectors 25 = .ok (.iload 4, 2) := by decide +kernel
theorem dDA_writeSmallVectors_27 : decode c_DA_writeSmallVectors 27 = .ok (.aload_n 1, 1) := by decide +kernel
theorem dDA_writeSmallVectors_28 : decode c_DA_writeSmallVectors 28 = .ok (.getfield 96, 3) := by decide +kernel
theorem dDA_writeSmallVectors_31 : decode c_DA_writeSmallVectors 31 = .ok (.if_icmp .ge 13, 3) := by decide +kernel
theorem dDA_writeSmallVectors_34 : decode c_DA_writeSmallVectors 34 = .ok (.aload_n 0, 1) := by decide +kernel
theorem dDA_writeSmallVectors_35 : decode c_DA_writeSmallVectors 35 = .ok (.getfield 38, 3) := by decide +kernel
theorem dDA_writeSmallVectors_38 : decode c_DA_writeSmallVectors 38 = .ok (.iload 4, 2) := by decide +kernel
theorem dDA_writeSmallVectors_40 : decode c_DA_writeSmallVectors 40 = .ok (.aaload, 1) := by decide +kernel
theorem dDA_writeSmallVectors_41 : decode c_DA_writeSmallVectors 41 = .ok (.goto 15, 3) := by decide +kernel
theorem dDA_writeSmallVectors_44 : decode c_DA_writeSmallVectors 44 = .ok (.aload_n 0, 1) := by decide +kernel
theorem dDA_writeSmallVectors_45 : decode c_DA_writeSmallVectors 45 = .ok (.getfield 41, 3) := by decide +kernel
theorem dDA_writeSmallVectors_48 : decode c_DA_writeSmallVectors 48 = .ok (.iload 4, 2) := by decide +kernel
theorem dDA_writeSmallVectors_50 : decode c_DA_writeSmallVectors 50 = .ok (.aload_n 1, 1) := by decide +kernel
theorem dDA_writeSmallVectors_51 : decode c_DA_writeSmallVectors 51 = .ok (.getfield 96, 3) := by decide +kernel
theorem dDA_writeSmallVectors_54 : decode c_DA_writeSmallVectors 54 = .ok (.isub, 1) := by decide +kernel
theorem dDA_writeSmallVectors_55 : decode c_DA_writeSmallVectors 55 = .ok (.aaload, 1) := by decide +kernel
theorem dDA_writeSmallVectors_56 : decode c_DA_writeSmallVectors 56 = .ok (.astore 5, 2) := by decide +kernel
theorem dDA_writeSmallVectors_58 : decode c_DA_writeSmallVectors 58 = .ok (.aload_n 0, 1) := by decide +kernel
theorem dDA_writeSmallVectors_59 : decode c_DA_writeSmallVectors 59 = .ok (.getfield 29, 3) := by decide +kernel
theorem dDA_writeSmallVectors_62 : decode c_DA_writeSmallVectors 62 = .ok (.aload_n 1, 1) := by decide +kernel
theorem dDA_writeSmallVectors_63 : decode c_DA_writeSmallVectors 63 = .ok (.aload 5, 2) := by decide +kernel
theorem dDA_writeSmallVectors_65 : decode c_DA_writeSmallVectors 65 = .ok (.aload_n 0, 1) := by decide +kernel
theorem dDA_writeSmallVectors_66 : decode c_DA_writeSmallVectors 66 = .ok (.getfield 60, 3) := by decide +kernel
theorem dDA_writeSmallVectors_69 : decode c_DA_writeSmallVectors 69 = .ok (.bipush 32, 2) := by decide +kernel
theorem dDA_writeSmallVectors_71 : decode c_DA_writeSmallVectors 71 = .ok (.iload 4, 2) := by decide +kernel
theorem dDA_writeSmallVectors_73 : decode c_DA_writeSmallVectors 73 = .ok (.invokevirtual 150, 3) := by decide +kernel
theorem dDA_writeSmallVectors_76 : decode c_DA_writeSmallVectors 76 = .ok (.aload_n 0, 1) := by decide +kernel
theorem dDA_writeSmallVectors_77 : decode c_DA_writeSmallVectors 77 = .ok (.getfield 22, 3) := by decide +kernel
theorem dDA_writeSmallVectors_80 : decode c_DA_writeSmallVectors 80 = .ok (.aload 5, 2) := by decide +kernel
theorem dDA_writeSmallVectors_82 : decode c_DA_writeSmallVectors 82 = .ok (.aload_n 1, 1) := by decide +kernel
theorem dDA_writeSmallVectors_83 : decode c_DA_writeSmallVectors 83 = .ok (.getfield 154, 3) := by decide +kernel
theorem dDA_writeSmallVectors_86 : decode c_DA_writeSmallVectors 86 = .ok (.aload_n 0, 1) := by decide +kernel
theorem dDA_writeSmallVectors_87 : decode c_DA_writeSmallVectors 87 = .ok (.getfield 57, 3) := by decide +kernel
theorem dDA_writeSmallVectors_90 : decode c_DA_writeSmallVectors 90 = .ok (.invokevirtual 157, 3) := by decide +kernel
theorem dDA_writeSmallVectors_93 : decode c_DA_writeSmallVectors 93 = .ok (.aload_n 0, 1) := by decide +kernel
theorem dDA_writeSmallVectors_94 : decode c_DA_writeSmallVectors 94 = .ok (.getfield 57, 3) := by decide +kernel
theorem dDA_writeSmallVectors_97 : decode c_DA_writeSmallVectors 97 = .ok (.aload_n 1, 1) := by decide +kernel
theorem dDA_writeSmallVectors_98 : decode c_DA_writeSmallVectors 98 = .ok (.getfield 123, 3) := by decide +kernel
theorem dDA_writeSmallVectors_101 : decode c_DA_writeSmallVectors 101 = .ok (.aload_n 2, 1) := by decide +kernel
theorem dDA_writeSmallVectors_102 : decode c_DA_writeSmallVectors 102 = .ok (.sipush 128, 3) := by decide +kernel
theorem dDA_writeSmallVectors_105 : decode c_DA_writeSmallVectors 105 = .ok (.iload_n 3, 1) := by decide +kernel
theorem dDA_writeSmallVectors_106 : decode c_DA_writeSmallVectors 106 = .ok (.iload 4, 2) := by decide +kernel
theorem dDA_writeSmallVectors_108 : decode c_DA_writeSmallVectors 108 = .ok (.imul, 1) := by decide +kernel
theorem dDA_writeSmallVectors_109 : decode c_DA_writeSmallVectors 109 = .ok (.iadd, 1) := by decide +kernel
theorem dDA_writeSmallVectors_110 : decode c_DA_writeSmallVectors 110 = .ok (.invokestatic 140, 3) := by decide +kernel
theorem dDA_writeSmallVectors_113 : decode c_DA_writeSmallVectors 113 = .ok (.iinc 4 1, 3) := by decide +kernel
theorem dDA_writeSmallVectors_116 : decode c_DA_writeSmallVectors 116 = .ok (.goto (-105), 3) := by decide +kernel
theorem dDA_writeSmallVectors_119 : decode c_DA_writeSmallVectors 119 = .ok (.return_, 1) := by decide +kernel
abbrev c_DA_makePair : ByteArray := prog_3_method_2_code
abbrev y_DA_makePair : MethodName := ⟨"LatticeKeys$Dsa", "makePair", "(LLatticeKeys$DsaSet;[B[B[B)V"⟩
abbrev w_DA_makePair : List Cond := Cond.code y_DA_makePair c_DA_makePair 7 none :: WG
theorem dDA_makePair_0 : decode c_DA_makePair 0 = .ok (.aload_n 0, 1) := by decide +kernel
theorem dDA_makePair_1 : decode c_DA_makePair 1 = .ok (.getfield 10, 3) := by decide +kernel
theorem dDA_makePair_4 : decode c_DA_makePair 4 = .ok (.iconst 3, 1) := by decide +kernel
theorem dDA_makePair_5 : decode c_DA_makePair 5 = .ok (.invokevirtual 79, 3) := by decide +kernel
theorem dDA_makePair_8 : decode c_DA_makePair 8 = .ok (.aload_n 0, 1) := by decide +kernel
theorem dDA_makePair_9 : decode c_DA_makePair 9 = .ok (.getfield 10, 3) := by decide +kernel
theorem dDA_makePair_12 : decode c_DA_makePair 12 = .ok (.aload_n 2, 1) := by decide +kernel
theorem dDA_makePair_13 : decode c_DA_makePair 13 = .ok (.iconst 0, 1) := by decide +kernel
theorem dDA_makePair_14 : decode c_DA_makePair 14 = .ok (.bipush 32, 2) := by decide +kernel
theorem dDA_makePair_16 : decode c_DA_makePair 16 = .ok (.invokevirtual 83, 3) := by decide +kernel
theorem dDA_makePair_19 : decode c_DA_makePair 19 = .ok (.aload_n 0, 1) := by decide +kernel
theorem dDA_makePair_20 : decode c_DA_makePair 20 = .ok (.getfield 10, 3) := by decide +kernel
theorem dDA_makePair_23 : decode c_DA_makePair 23 = .ok (.aload_n 1, 1) := by decide +kernel
theorem dDA_makePair_24 : decode c_DA_makePair 24 = .ok (.getfield 87, 3) := by decide +kernel
theorem dDA_makePair_27 : decode c_DA_makePair 27 = .ok (.invokevirtual 93, 3) := by decide +kernel
theorem dDA_makePair_30 : decode c_DA_makePair 30 = .ok (.aload_n 0, 1) := by decide +kernel
theorem dDA_makePair_31 : decode c_DA_makePair 31 = .ok (.getfield 10, 3) := by decide +kernel
theorem dDA_makePair_34 : decode c_DA_makePair 34 = .ok (.aload_n 1, 1) := by decide +kernel
theorem dDA_makePair_35 : decode c_DA_makePair 35 = .ok (.getfield 96, 3) := by decide +kernel
theorem dDA_makePair_38 : decode c_DA_makePair 38 = .ok (.invokevirtual 93, 3) := by decide +kernel
theorem dDA_makePair_41 : decode c_DA_makePair 41 = .ok (.aload_n 0, 1) := by decide +kernel
theorem dDA_makePair_42 : decode c_DA_makePair 42 = .ok (.getfield 10, 3) := by decide +kernel
theorem dDA_makePair_45 : decode c_DA_makePair 45 = .ok (.invokevirtual 99, 3) := by decide +kernel
theorem dDA_makePair_48 : decode c_DA_makePair 48 = .ok (.aload_n 0, 1) := by decide +kernel
theorem dDA_makePair_49 : decode c_DA_makePair 49 = .ok (.getfield 10, 3) := by decide +kernel
theorem dDA_makePair_52 : decode c_DA_makePair 52 = .ok (.aload_n 0, 1) := by decide +kernel
theorem dDA_makePair_53 : decode c_DA_makePair 53 = .ok (.getfield 60, 3) := by decide +kernel
theorem dDA_makePair_56 : decode c_DA_makePair 56 = .ok (.iconst 0, 1) := by decide +kernel
theorem dDA_makePair_57 : decode c_DA_makePair 57 = .ok (.sipush 128, 3) := by decide +kernel
theorem dDA_makePair_60 : decode c_DA_makePair 60 = .ok (.invokevirtual 102, 3) := by decide +kernel
theorem dDA_makePair_63 : decode c_DA_makePair 63 = .ok (.aload_n 0, 1) := by decide +kernel
theorem dDA_makePair_64 : decode c_DA_makePair 64 = .ok (.getfield 60, 3) := by decide +kernel
theorem dDA_makePair_67 : decode c_DA_makePair 67 = .ok (.iconst 0, 1) := by decide +kernel
theorem dDA_makePair_68 : decode c_DA_makePair 68 = .ok (.aload_n 3, 1) := by decide +kernel
theorem dDA_makePair_69 : decode c_DA_makePair 69 = .ok (.iconst 0, 1) := by decide +kernel
theorem dDA_makePair_70 : decode c_DA_makePair 70 = .ok (.bipush 32, 2) := by decide +kernel
theorem dDA_makePair_72 : decode c_DA_makePair 72 = .ok (.invokestatic 105, 3) := by decide +kernel
theorem dDA_makePair_75 : decode c_DA_makePair 75 = .ok (.aload_n 0, 1) := by decide +kernel
theorem dDA_makePair_76 : decode c_DA_makePair 76 = .ok (.getfield 60, 3) := by decide +kernel
theorem dDA_makePair_79 : decode c_DA_makePair 79 = .ok (.iconst 0, 1) := by decide +kernel
theorem dDA_makePair_80 : decode c_DA_makePair 80 = .ok (.aload 4, 2) := by decide +kernel
theorem dDA_makePair_82 : decode c_DA_makePair 82 = .ok (.iconst 0, 1) := by decide +kernel
theorem dDA_makePair_83 : decode c_DA_makePair 83 = .ok (.bipush 32, 2) := by decide +kernel
theorem dDA_makePair_85 : decode c_DA_makePair 85 = .ok (.invokestatic 105, 3) := by decide +kernel
theorem dDA_makePair_88 : decode c_DA_makePair 88 = .ok (.aload_n 0, 1) := by decide +kernel
theorem dDA_makePair_89 : decode c_DA_makePair 89 = .ok (.getfield 60, 3) := by decide +kernel
theorem dDA_makePair_92 : decode c_DA_makePair 92 = .ok (.bipush 96, 2) := by decide +kernel
theorem dDA_makePair_94 : decode c_DA_makePair 94 = .ok (.aload 4, 2) := by decide +kernel
theorem dDA_makePair_96 : decode c_DA_makePair 96 = .ok (.bipush 32, 2) := by decide +kernel
theorem dDA_makePair_98 : decode c_DA_makePair 98 = .ok (.bipush 32, 2) := by decide +kernel
theorem dDA_makePair_100 : decode c_DA_makePair 100 = .ok (.invokestatic 105, 3) := by decide +kernel
theorem dDA_makePair_103 : decode c_DA_makePair 103 = .ok (.aload_n 0, 1) := by decide +kernel
theorem dDA_makePair_104 : decode c_DA_makePair 104 = .ok (.aload_n 1, 1) := by decide +kernel
theorem dDA_makePair_105 : decode c_DA_makePair 105 = .ok (.aload 4, 2) := by decide +kernel
theorem dDA_makePair_107 : decode c_DA_makePair 107 = .ok (.invokevirtual 111, 3) := by decide +kernel
theorem dDA_makePair_110 : decode c_DA_makePair 110 = .ok (.aload_n 0, 1) := by decide +kernel
theorem dDA_makePair_111 : decode c_DA_makePair 111 = .ok (.getfield 29, 3) := by decide +kernel
theorem dDA_makePair_114 : decode c_DA_makePair 114 = .ok (.aload_n 1, 1) := by decide +kernel
theorem dDA_makePair_115 : decode c_DA_makePair 115 = .ok (.aload_n 3, 1) := by decide +kernel
theorem dDA_makePair_116 : decode c_DA_makePair 116 = .ok (.aload_n 0, 1) := by decide +kernel
theorem dDA_makePair_117 : decode c_DA_makePair 117 = .ok (.getfield 35, 3) := by decide +kernel
theorem dDA_makePair_120 : decode c_DA_makePair 120 = .ok (.invokevirtual 115, 3) := by decide +kernel
theorem dDA_makePair_123 : decode c_DA_makePair 123 = .ok (.iconst 0, 1) := by decide +kernel
theorem dDA_makePair_124 : decode c_DA_makePair 124 = .ok (.istore 5, 2) := by decide +kernel
theorem dDA_makePair_126 : decode c_DA_makePair 126 = .ok (.iload 5, 2) := by decide +kernel
theorem dDA_makePair_128 : decode c_DA_makePair 128 = .ok (.aload_n 1, 1) := by decide +kernel
theorem dDA_makePair_129 : decode c_DA_makePair 129 = .ok (.getfield 96, 3) := by decide +kernel
theorem dDA_makePair_132 : decode c_DA_makePair 132 = .ok (.if_icmp .ge 23, 3) := by decide +kernel
theorem dDA_makePair_135 : decode c_DA_makePair 135 = .ok (.aload_n 0, 1) := by decide +kernel
theorem dDA_makePair_136 : decode c_DA_makePair 136 = .ok (.getfield 22, 3) := by decide +kernel
theorem dDA_makePair_139 : decode c_DA_makePair 139 = .ok (.aload_n 0, 1) := by decide +kernel
theorem dDA_makePair_140 : decode c_DA_makePair 140 = .ok (.getfield 38, 3) := by decide +kernel
theorem dDA_makePair_143 : decode c_DA_makePair 143 = .ok (.iload 5, 2) := by decide +kernel
theorem dDA_makePair_145 : decode c_DA_makePair 145 = .ok (.aaload, 1) := by decide +kernel
theorem dDA_makePair_146 : decode c_DA_makePair 146 = .ok (.invokevirtual 119, 3) := by decide +kernel
theorem dDA_makePair_149 : decode c_DA_makePair 149 = .ok (.iinc 5 1, 3) := by decide +kernel
theorem dDA_makePair_152 : decode c_DA_makePair 152 = .ok (.goto (-26), 3) := by decide +kernel
theorem dDA_makePair_155 : decode c_DA_makePair 155 = .ok (.sipush 128, 3) := by decide +kernel
theorem dDA_makePair_158 : decode c_DA_makePair 158 = .ok (.bipush 32, 2) := by decide +kernel
theorem dDA_makePair_160 : decode c_DA_makePair 160 = .ok (.aload_n 1, 1) := by decide +kernel
theorem dDA_makePair_161 : decode c_DA_makePair 161 = .ok (.getfield 123, 3) := by decide +kernel
theorem dDA_makePair_164 : decode c_DA_makePair 164 = .ok (.imul, 1) := by decide +kernel
theorem dDA_makePair_165 : decode c_DA_makePair 165 = .ok (.aload_n 1, 1) := by decide +kernel
theorem dDA_makePair_166 : decode c_DA_makePair 166 = .ok (.getfield 87, 3) := by decide +kernel
theorem dDA_makePair_169 : decode c_DA_makePair 169 = .ok (.aload_n 1, 1) := by decide +kernel
theorem dDA_makePair_170 : decode c_DA_makePair 170 = .ok (.getfield 96, 3) := by decide +kernel
theorem dDA_makePair_173 : decode c_DA_makePair 173 = .ok (.iadd, 1) := by decide +kernel
theorem dDA_makePair_174 : decode c_DA_makePair 174 = .ok (.imul, 1) := by decide +kernel
theorem dDA_makePair_175 : decode c_DA_makePair 175 = .ok (.iadd, 1) := by decide +kernel
theorem dDA_makePair_176 : decode c_DA_makePair 176 = .ok (.istore 5, 2) := by decide +kernel
theorem dDA_makePair_178 : decode c_DA_makePair 178 = .ok (.iconst 0, 1) := by decide +kernel
theorem dDA_makePair_179 : decode c_DA_makePair 179 = .ok (.istore 6, 2) := by decide +kernel
theorem dDA_makePair_181 : decode c_DA_makePair 181 = .ok (.iload 6, 2) := by decide +kernel
theorem dDA_makePair_183 : decode c_DA_makePair 183 = .ok (.aload_n 1, 1) := by decide +kernel
theorem dDA_makePair_184 : decode c_DA_makePair 184 = .ok (.getfield 87, 3) := by decide +kernel
theorem dDA_makePair_187 : decode c_DA_makePair 187 = .ok (.if_icmp .ge 108, 3) := by decide +kernel
theorem dDA_makePair_190 : decode c_DA_makePair 190 = .ok (.aload_n 0, 1) := by decide +kernel
theorem dDA_makePair_191 : decode c_DA_makePair 191 = .ok (.aload_n 1, 1) := by decide +kernel
theorem dDA_makePair_192 : decode c_DA_makePair 192 = .ok (.iload 6, 2) := by decide +kernel
theorem dDA_makePair_194 : decode c_DA_makePair 194 = .ok (.aload_n 0, 1) := by decide +kernel
theorem dDA_makePair_195 : decode c_DA_makePair 195 = .ok (.getfield 38, 3) := by decide +kernel
theorem dDA_makePair_198 : decode c_DA_makePair 198 = .ok (.invokevirtual 126, 3) := by decide +kernel
theorem dDA_makePair_201 : decode c_DA_makePair 201 = .ok (.aload_n 0, 1) := by decide +kernel
theorem dDA_makePair_202 : decode c_DA_makePair 202 = .ok (.getfield 22, 3) := by decide +kernel
theorem dDA_makePair_205 : decode c_DA_makePair 205 = .ok (.aload_n 0, 1) := by decide +kernel
theorem dDA_makePair_206 : decode c_DA_makePair 206 = .ok (.getfield 50, 3) := by decide +kernel
theorem dDA_makePair_209 : decode c_DA_makePair 209 = .ok (.iload 6, 2) := by decide +kernel
theorem dDA_makePair_211 : decode c_DA_makePair 211 = .ok (.aaload, 1) := by decide +kernel
theorem dDA_makePair_212 : decode c_DA_makePair 212 = .ok (.invokevirtual 130, 3) := by decide +kernel
theorem dDA_makePair_215 : decode c_DA_makePair 215 = .ok (.aload_n 0, 1) := by decide +kernel
theorem dDA_makePair_216 : decode c_DA_makePair 216 = .ok (.getfield 22, 3) := by decide +kernel
theorem dDA_makePair_219 : decode c_DA_makePair 219 = .ok (.aload_n 0, 1) := by decide +kernel
theorem dDA_makePair_220 : decode c_DA_makePair 220 = .ok (.getfield 50, 3) := by decide +kernel
theorem dDA_makePair_223 : decode c_DA_makePair 223 = .ok (.iload 6, 2) := by decide +kernel
theorem dDA_makePair_225 : decode c_DA_makePair 225 = .ok (.aaload, 1) := by decide +kernel
theorem dDA_makePair_226 : decode c_DA_makePair 226 = .ok (.aload_n 0, 1) := by decide +kernel
theorem dDA_makePair_227 : decode c_DA_makePair 227 = .ok (.getfield 41, 3) := by decide +kernel
theorem dDA_makePair_230 : decode c_DA_makePair 230 = .ok (.iload 6, 2) := by decide +kernel
theorem dDA_makePair_232 : decode c_DA_makePair 232 = .ok (.aaload, 1) := by decide +kernel
theorem dDA_makePair_233 : decode c_DA_makePair 233 = .ok (.invokevirtual 133, 3) := by decide +kernel
theorem dDA_makePair_236 : decode c_DA_makePair 236 = .ok (.aload_n 0, 1) := by decide +kernel
theorem dDA_makePair_237 : decode c_DA_makePair 237 = .ok (.aload_n 0, 1) := by decide +kernel
theorem dDA_makePair_238 : decode c_DA_makePair 238 = .ok (.getfield 50, 3) := by decide +kernel
theorem dDA_makePair_241 : decode c_DA_makePair 241 = .ok (.iload 6, 2) := by decide +kernel
theorem dDA_makePair_243 : decode c_DA_makePair 243 = .ok (.aaload, 1) := by decide +kernel
theorem dDA_makePair_244 : decode c_DA_makePair 244 = .ok (.invokevirtual 137, 3) := by decide +kernel
theorem dDA_makePair_247 : decode c_DA_makePair 247 = .ok (.aload_n 0, 1) := by decide +kernel
theorem dDA_makePair_248 : decode c_DA_makePair 248 = .ok (.getfield 50, 3) := by decide +kernel
theorem dDA_makePair_251 : decode c_DA_makePair 251 = .ok (.iload 6, 2) := by decide +kernel
theorem dDA_makePair_253 : decode c_DA_makePair 253 = .ok (.aaload, 1) := by decide +kernel
theorem dDA_makePair_254 : decode c_DA_makePair 254 = .ok (.bipush 10, 2) := by decide +kernel
theorem dDA_makePair_256 : decode c_DA_makePair 256 = .ok (.aload_n 3, 1) := by decide +kernel
theorem dDA_makePair_257 : decode c_DA_makePair 257 = .ok (.bipush 32, 2) := by decide +kernel
theorem dDA_makePair_259 : decode c_DA_makePair 259 = .ok (.sipush 320, 3) := by decide +kernel
theorem dDA_makePair_262 : decode c_DA_makePair 262 = .ok (.iload 6, 2) := by decide +kernel
theorem dDA_makePair_264 : decode c_DA_makePair 264 = .ok (.imul, 1) := by decide +kernel
theorem dDA_makePair_265 : decode c_DA_makePair 265 = .ok (.iadd, 1) := by decide +kernel
theorem dDA_makePair_266 : decode c_DA_makePair 266 = .ok (.invokestatic 140, 3) := by decide +kernel
theorem dDA_makePair_269 : decode c_DA_makePair 269 = .ok (.aload_n 0, 1) := by decide +kernel
theorem dDA_makePair_270 : decode c_DA_makePair 270 = .ok (.getfield 57, 3) := by decide +kernel
theorem dDA_makePair_273 : decode c_DA_makePair 273 = .ok (.bipush 13, 2) := by decide +kernel
theorem dDA_makePair_275 : decode c_DA_makePair 275 = .ok (.aload 4, 2) := by decide +kernel
theorem dDA_makePair_277 : decode c_DA_makePair 277 = .ok (.iload 5, 2) := by decide +kernel
theorem dDA_makePair_279 : decode c_DA_makePair 279 = .ok (.sipush 416, 3) := by decide +kernel
theorem dDA_makePair_282 : decode c_DA_makePair 282 = .ok (.iload 6, 2) := by decide +kernel
theorem dDA_makePair_284 : decode c_DA_makePair 284 = .ok (.imul, 1) := by decide +kernel
theorem dDA_makePair_285 : decode c_DA_makePair 285 = .ok (.iadd, 1) := by decide +kernel
theorem dDA_makePair_286 : decode c_DA_makePair 286 = .ok (.invokestatic 140, 3) := by decide +kernel
theorem dDA_makePair_289 : decode c_DA_makePair 289 = .ok (.iinc 6 1, 3) := by decide +kernel
theorem dDA_makePair_292 : decode c_DA_makePair 292 = .ok (.goto (-111), 3) := by decide +kernel
theorem dDA_makePair_295 : decode c_DA_makePair 295 = .ok (.aload_n 0, 1) := by decide +kernel
theorem dDA_makePair_296 : decode c_DA_makePair 296 = .ok (.aload_n 3, 1) := by decide +kernel
theorem dDA_makePair_297 : decode c_DA_makePair 297 = .ok (.invokevirtual 146, 3) := by decide +kernel
theorem dDA_makePair_300 : decode c_DA_makePair 300 = .ok (.aload_n 0, 1) := by decide +kernel
theorem dDA_makePair_301 : decode c_DA_makePair 301 = .ok (.getfield 64, 3) := by decide +kernel
theorem dDA_makePair_304 : decode c_DA_makePair 304 = .ok (.iconst 0, 1) := by decide +kernel
theorem dDA_makePair_305 : decode c_DA_makePair 305 = .ok (.aload 4, 2) := by decide +kernel
theorem dDA_makePair_307 : decode c_DA_makePair 307 = .ok (.bipush 64, 2) := by decide +kernel
theorem dDA_makePair_309 : decode c_DA_makePair 309 = .ok (.bipush 64, 2) := by decide +kernel
theorem dDA_makePair_311 : decode c_DA_makePair 311 = .ok (.invokestatic 105, 3) := by decide +kernel
theorem dDA_makePair_314 : decode c_DA_makePair 314 = .ok (.return_, 1) := by decide +kernel
set_option maxHeartbeats 400000 in
set_option maxRecDepth 100000 in
theorem t_DA_digestOf (l : Launch) (g : Gd) (sz : Nat) (T : Ty) (xs : List Nat) (pl : va_W) (hO : okx g T xs pl) (hU : uni T) (hc0 : clo T xs 0) (hc3 : clo T xs 3) (h0 b n : Nat) (k_h0 : T h0 = some (15, 0)) (k_b : T b = some (1, n)) (h2 : n < 65536)  : Met l y_DA_digestOf w_DA_digestOf ({ frames := 3, cells := 0, slots := 0, locals := 100 } : Room) (va_Pc [.ref h0, .ref b] (pr (en g) g.1 vcl sz ([] ++ pl))) (va_Qv (fun (u : va_W) => (True) ∧ okx g T xs u) (po g.1 vcl (va_A ([] ++ pl) sz) (fun (u : va_W) => [] ++ u)) (va_A ([] ++ pl) sz)) 0 0 (va_A ([] ++ pl) sz) := by
  refine mc_entry (cc := c_DA_digestOf) (maxL := 2) (ret := none) (by decide) rfl (Nat.le_of_ble_eq_true rfl) ?_
  intro p e s m args below meth c ls F hr hlk hnm hsz hP hD hE hA hl
  obtain ⟨hx, hb, hml, hown, hts⟩ := id F
  have hK := hE.1
  generalize va_A ([] ++ pl) sz = A at hD hE hA ⊢
  have hS : va_S A s.heap s.heap [] := va_S.rf
  have hl : lv_has ls 2 [(0, .ref h0), (1, .ref b)] := hl
  refine lv_aload_n hx hb dDA_digestOf_0 rfl (lv_at hl 0 rfl) ?_
  refine ty_get (ci := 6) (C := "LatticeKeys$Dsa") (TT := T_DA) (N := 17) (kd := (15, 0)) hx hb hts (wg_ft i_DA) hown hK hO k_h0 (nxg hc0 k_h0 rfl) hP (fun _ h9 => h9) rfl 0 (by decide) (hts _ (wg_t kw_165)) (fun _ h9 => h9) (cd := (3, 10, 2)) rfl dDA_digestOf_1 (fun v21 hv21 => ?_)
  obtain ⟨r21, rfl, kr21⟩ := (show ∃ r : Nat, v21 = .ref r ∧ T r = some (10, 2) from hv21)
  refine lv_iconst (v := nI 3) hx hb dDA_digestOf_4 (by decide) ?_
  obtain ⟨e21, pl, hP, hD, hk21, hO⟩ := open1 hP hD hO kr21 (nxg hc3 kr21 rfl)
  obtain ⟨ln21, rt21, ps21, x21, rfl, kl21, hr21, hr22, hr23⟩ := hk21
  have kl21 : T ln21 = some (19, 2) := kl21
  obtain ⟨e22, pl, hP, hD, hk22, hO⟩ := open1 hP hD hO kl21 (nmc (knd_ne kl21 kr21 (by decide)) (nxg hc3 kl21 rfl))
  obtain ⟨f21, rfl⟩ := hk22
  have hP : va_P g.1 vcl ([(r21, .inr (3, [.ref ln21, .int (nI rt21), .int x21, .int (nI ps21)])), (ln21, .inl (g.2.1 2, 25, .inr (.inl f21)))] ++ pl) _ := hP
  have hD : va_D _ ([(r21, .inr (3, [.ref ln21, .int (nI rt21), .int x21, .int (nI ps21)])), (ln21, .inl (g.2.1 2, 25, .inr (.inl f21)))] ++ pl) := hD
  refine mp_v (cx := [(r21, .inr (3, [.ref ln21, .int (nI rt21), .int x21, .int (nI ps21)])), (ln21, .inl (g.2.1 2, 25, .inr (.inl f21)))]) (wr := []) hP hD hS hA [0, 1] [] rfl rfl rfl (by decide) (va_runV (As := [.int (nI 3)]) (rest := []) F (t_SP_start_3 l g _ T (ln21 :: (r21 :: xs)) pl hO hU  r21 ln21 rt21 ps21 x21 f21) (cwV 1 hts (wg_app (wg_c kw_669 (wg_c kw_579 (wg_c kw_580 (wg_c kw_2 wg_n)))) kw_581) rfl rfl rfl (by decide +kernel) ⟨by decide, by decide⟩) (pp_V (en_ok g) (q0 := 0) hK hP hD hS hA hE [0, 1] rfl rfl rfl rfl) rfl rfl hl.1 rfl (lv_room (Nat.le_of_ble_eq_true rfl)) dDA_digestOf_5 ⟨by omega, by omega⟩) (fun  u21 H locs hu21 hP hD hS => ?_)
  obtain ⟨u22, pl⟩ := u21
  obtain ⟨hq21, hO⟩ := hu21
  have hP : va_P g.1 vcl ([(r21, .inr (3, [.ref ln21, .int (nI 136), .int (nI 31), .int (nI 0)])), (ln21, .inl (g.2.1 2, 25, .inr (.inl u22)))] ++ pl) _ := hP
  have hD : va_D _ ([(r21, .inr (3, [.ref ln21, .int (nI 136), .int (nI 31), .int (nI 0)])), (ln21, .inl (g.2.1 2, 25, .inr (.inl u22)))] ++ pl) := hD
  refine W.widen (k := 0) (n := 0) (by omega) (by omega) ?_
  refine lv_aload_n hx hb dDA_digestOf_8 rfl (lv_at hl 0 rfl) ?_
  refine ty_get (ci := 6) (C := "LatticeKeys$Dsa") (TT := T_DA) (N := 17) (kd := (15, 0)) hx hb hts (wg_ft i_DA) hown hK hO k_h0 (nxg (clo_cons (clo_cons hc0 kr21 (by decide)) kl21 (by decide)) k_h0 rfl) hP (fun _ h9 => h9) rfl 0 (by decide) (hts _ (wg_t kw_165)) (fun _ h9 => h9) (cd := (3, 10, 2)) rfl dDA_digestOf_9 (fun v22 hv22 => ?_)
  obtain ⟨r22, rfl, kr22⟩ := (show ∃ r : Nat, v22 = .ref r ∧ T r = some (10, 2) from hv22)
  obtain rfl : r21 = r22 := hU _ _ _ (by decide) kr21 kr22
  refine lv_aload_n hx hb dDA_digestOf_12 rfl (lv_at hl 1 rfl) ?_
  refine lv_iconst (v := nI 0) hx hb dDA_digestOf_13 (by decide) ?_
  refine lv_aload_n hx hb dDA_digestOf_14 rfl (lv_at hl 1 rfl) ?_
  refine ty_alen1 hx hb hK hO k_b (nxg (clo_cons (clo_cons hc0 kr21 (by decide)) kl21 (by decide)) k_b rfl) hP dDA_digestOf_15 ?_
  refine mp_v (cx := [(r21, .inr (3, [.ref ln21, .int (nI 136), .int (nI 31), .int (nI 0)])), (ln21, .inl (g.2.1 2, 25, .inr (.inl u22)))]) (wr := []) hP hD hS hA [0, 1] [] rfl rfl rfl (by decide) (va_runV (As := [.ref b, .int (nI 0), .int (nI n)]) (rest := []) F (t_SP_absorb l g _ T (ln21 :: (r21 :: xs)) pl hO hU (clo_cons (clo_cons hc0 kr21 (by decide)) kl21 (by decide)) b n 0 n r21 ln21 136 0 (nI 31) u22 k_b (by omega) (by omega) (by omega) (by omega)) (cwV 3 hts (wg_app (wg_c kw_670 (wg_c kw_586 (wg_c kw_587 (wg_c kw_2 wg_n)))) kw_588) rfl rfl rfl (by decide +kernel) ⟨by decide, by decide⟩) (pp_V (en_ok g) (q0 := 0) hK hP hD hS hA hE [0, 1] rfl rfl rfl rfl) rfl rfl hl.1 rfl (lv_room (Nat.le_of_ble_eq_true rfl)) dDA_digestOf_16 ⟨by omega, by omega⟩) (fun  u23 H locs hu22 hP hD hS => ?_)
  obtain ⟨u24, pl⟩ := u23
  obtain ⟨hq22, hO⟩ := hu22
  obtain ⟨k21, f22⟩ := u24
  have hP : va_P g.1 vcl ([(r21, .inr (3, [.ref ln21, .int (nI 136), .int (nI 31), .int (nI k21)])), (ln21, .inl (g.2.1 2, 25, .inr (.inl f22)))] ++ pl) _ := hP
  have hD : va_D _ ([(r21, .inr (3, [.ref ln21, .int (nI 136), .int (nI 31), .int (nI k21)])), (ln21, .inl (g.2.1 2, 25, .inr (.inl f22)))] ++ pl) := hD
  have hq22 : k21 < 136 := hq22
  refine W.widen (k := 0) (n := 0) (by omega) (by omega) ?_
  refine lv_aload_n hx hb dDA_digestOf_19 rfl (lv_at hl 0 rfl) ?_
  refine ty_get (ci := 6) (C := "LatticeKeys$Dsa") (TT := T_DA) (N := 17) (kd := (15, 0)) hx hb hts (wg_ft i_DA) hown hK hO k_h0 (nxg (clo_cons (clo_cons hc0 kr21 (by decide)) kl21 (by decide)) k_h0 rfl) hP (fun _ h9 => h9) rfl 0 (by decide) (hts _ (wg_t kw_165)) (fun _ h9 => h9) (cd := (3, 10, 2)) rfl dDA_digestOf_20 (fun v23 hv23 => ?_)
  obtain ⟨r23, rfl, kr23⟩ := (show ∃ r : Nat, v23 = .ref r ∧ T r = some (10, 2) from hv23)
  obtain rfl : r21 = r23 := hU _ _ _ (by decide) kr21 kr23
  refine mp_v (cx := [(r21, .inr (3, [.ref ln21, .int (nI 136), .int (nI 31), .int (nI k21)])), (ln21, .inl (g.2.1 2, 25, .inr (.inl f22)))]) (wr := []) hP hD hS hA [0, 1] [] rfl rfl rfl (by decide) (va_runV (As := []) (rest := []) F (t_SP_finish l g _ T (ln21 :: (r21 :: xs)) pl hO hU  r21 ln21 136 k21 (nI 31) f22 (by omega) (by omega)) (cwV 0 hts (wg_app (wg_c kw_672 (wg_c kw_611 (wg_c kw_612 (wg_c kw_2 wg_n)))) kw_613) rfl rfl rfl (by decide +kernel) ⟨by decide, by decide⟩) (pp_V (en_ok g) (q0 := 0) hK hP hD hS hA hE [0, 1] rfl rfl rfl rfl) rfl rfl hl.1 rfl (lv_room (Nat.le_of_ble_eq_true rfl)) dDA_digestOf_23 ⟨by omega, by omega⟩) (fun  u25 H locs hu23 hP hD hS => ?_)
  obtain ⟨u26, pl⟩ := u25
  obtain ⟨hq23, hO⟩ := hu23
  have hP : va_P g.1 vcl ([(r21, .inr (3, [.ref ln21, .int (nI 136), .int (nI 31), .int (nI 136)])), (ln21, .inl (g.2.1 2, 25, .inr (.inl u26)))] ++ pl) _ := hP
  have hD : va_D _ ([(r21, .inr (3, [.ref ln21, .int (nI 136), .int (nI 31), .int (nI 136)])), (ln21, .inl (g.2.1 2, 25, .inr (.inl u26)))] ++ pl) := hD
  refine W.widen (k := 0) (n := 0) (by omega) (by omega) ?_
  refine lv_aload_n hx hb dDA_digestOf_26 rfl (lv_at hl 0 rfl) ?_
  refine ty_get (ci := 6) (C := "LatticeKeys$Dsa") (TT := T_DA) (N := 17) (kd := (15, 0)) hx hb hts (wg_ft i_DA) hown hK hO k_h0 (nxg (clo_cons (clo_cons hc0 kr21 (by decide)) kl21 (by decide)) k_h0 rfl) hP (fun _ h9 => h9) rfl 0 (by decide) (hts _ (wg_t kw_165)) (fun _ h9 => h9) (cd := (3, 10, 2)) rfl dDA_digestOf_27 (fun v24 hv24 => ?_)
  obtain ⟨r24, rfl, kr24⟩ := (show ∃ r : Nat, v24 = .ref r ∧ T r = some (10, 2) from hv24)
  obtain rfl : r21 = r24 := hU _ _ _ (by decide) kr21 kr24
  refine lv_aload_n hx hb dDA_digestOf_30 rfl (lv_at hl 0 rfl) ?_
  refine ty_get (ci := 6) (C := "LatticeKeys$Dsa") (TT := T_DA) (N := 17) (kd := (15, 0)) hx hb hts (wg_ft i_DA) hown hK hO k_h0 (nxg (clo_cons (clo_cons hc0 kr21 (by decide)) kl21 (by decide)) k_h0 rfl) hP (fun _ h9 => h9) rfl 12 (by decide) (hts _ (wg_t kw_177)) (fun _ h9 => h9) (cd := (3, 1, 64)) rfl dDA_digestOf_31 (fun v25 hv25 => ?_)
  obtain ⟨r25, rfl, kr25⟩ := (show ∃ r : Nat, v25 = .ref r ∧ T r = some (1, 64) from hv25)
  refine lv_iconst (v := nI 0) hx hb dDA_digestOf_34 (by decide) ?_
  refine lv_bipush (v := nI 64) hx hb dDA_digestOf_35 (by decide) ?_
  refine mp_v (cx := [(r21, .inr (3, [.ref ln21, .int (nI 136), .int (nI 31), .int (nI 136)])), (ln21, .inl (g.2.1 2, 25, .inr (.inl u26)))]) (wr := []) hP hD hS hA [0, 1] [] rfl rfl rfl (by decide) (va_runV (As := [.ref r25, .int (nI 0), .int (nI 64)]) (rest := []) F (t_SP_squeeze l g _ T (ln21 :: (r21 :: xs)) pl hO hU (clo_cons (clo_cons hc0 kr21 (by decide)) kl21 (by decide)) r25 64 0 64 r21 ln21 136 136 (nI 31) u26 kr25 (by omega) (by omega) (by omega) (by omega)) (cwV 3 hts (wg_app (wg_c kw_673 (wg_c kw_615 (wg_c kw_616 (wg_c kw_2 wg_n)))) kw_617) rfl rfl rfl (by decide +kernel) ⟨by decide, by decide⟩) (pp_V (en_ok g) (q0 := 0) hK hP hD hS hA hE [0, 1] rfl rfl rfl rfl) rfl rfl hl.1 rfl (lv_room (Nat.le_of_ble_eq_true rfl)) dDA_digestOf_37 ⟨by omega, by omega⟩) (fun  u27 H locs hu24 hP hD hS => ?_)
  obtain ⟨u28, pl⟩ := u27
  obtain ⟨hq24, hO⟩ := hu24
  obtain ⟨k22, f23⟩ := u28
  have hP : va_P g.1 vcl ([(r21, .inr (3, [.ref ln21, .int (nI 136), .int (nI 31), .int (nI k22)])), (ln21, .inl (g.2.1 2, 25, .inr (.inl f23)))] ++ pl) _ := hP
  have hD : va_D _ ([(r21, .inr (3, [.ref ln21, .int (nI 136), .int (nI 31), .int (nI k22)])), (ln21, .inl (g.2.1 2, 25, .inr (.inl f23)))] ++ pl) := hD
  have hq24 : k22 ≤ 136 := hq24
  refine W.widen (k := 0) (n := 0) (by omega) (by omega) ?_
  have hO := close1 (e := .inl (g.2.1 2, 25, .inr (.inl f23))) hO kl21 ⟨_, rfl⟩
  have hO := close1 (e := .inr (3, [.ref ln21, .int (nI 136), .int (nI 31), .int (nI k22)])) hO kr21 ⟨_, _, _, _, rfl, kl21, by omega, by omega, by omega⟩
  have hO : okx g T xs ((r21, .inr (3, [.ref ln21, .int (nI 136), .int (nI 31), .int (nI k22)])) :: (ln21, .inl (g.2.1 2, 25, .inr (.inl f23))) :: pl) := hO
  have hP : va_P g.1 vcl ([] ++ ((r21, .inr (3, [.ref ln21, .int (nI 136), .int (nI 31), .int (nI k22)])) :: (ln21, .inl (g.2.1 2, 25, .inr (.inl f23))) :: pl)) _ := hP
  have hD : va_D _ ([] ++ ((r21, .inr (3, [.ref ln21, .int (nI 136), .int (nI 31), .int (nI k22)])) :: (ln21, .inl (g.2.1 2, 25, .inr (.inl f23))) :: pl)) := hD
  generalize ((r21, .inr (3, [.ref ln21, .int (nI 136), .int (nI 31), .int (nI k22)])) :: (ln21, .inl (g.2.1 2, 25, .inr (.inl f23))) :: pl) = pl at hO hP hD
  exact mp_vret hx hb hr hlk hP hD hS pl ⟨trivial, hO⟩ [] rfl rfl rfl (by omega) (by omega) dDA_digestOf_40
set_option maxHeartbeats 400000 in
set_option maxRecDepth 100000 in
theorem t_DA_digestMessage (l : Launch) (g : Gd) (sz : Nat) (T : Ty) (xs : List Nat) (pl : va_W) (hO : okx g T xs pl) (hU : uni T) (hc0 : clo T xs 0) (hc3 : clo T xs 3) (h0 b n fr to_ : Nat) (cl : Int32) (k_h0 : T h0 = some (15, 0)) (k_b : T b = some (1, n)) (h1 : fr ≤ to_) (h3 : to_ ≤ n) (h2 : n < 65536)  : Met l y_DA_digestMessage w_DA_digestMessage ({ frames := 3, cells := 0, slots := 0, locals := 100 } : Room) (va_Pc [.ref h0, .ref b, .int (nI fr), .int (nI to_), .int cl] (pr (en g) g.1 vcl sz ([] ++ pl))) (va_Qv (fun (u : va_W) => (True) ∧ okx g T xs u) (po g.1 vcl (va_A ([] ++ pl) sz) (fun (u : va_W) => [] ++ u)) (va_A ([] ++ pl) sz)) 0 0 (va_A ([] ++ pl) sz) := by
  refine mc_entry (cc := c_DA_digestMessage) (maxL := 5) (ret := none) (by decide) rfl (Nat.le_of_ble_eq_true rfl) ?_
  intro p e s m args below meth c ls F hr hlk hnm hsz hP hD hE hA hl
  obtain ⟨hx, hb, hml, hown, hts⟩ := id F
  have hK := hE.1
  generalize va_A ([] ++ pl) sz = A at hD hE hA ⊢
  have hS : va_S A s.heap s.heap [] := va_S.rf
  have hl : lv_has ls 5 [(0, .ref h0), (1, .ref b), (2, .int (nI fr)), (3, .int (nI to_)), (4, .int cl)] := hl
  refine lv_aload_n hx hb dDA_digestMessage_0 rfl (lv_at hl 0 rfl) ?_
  refine ty_get (ci := 6) (C := "LatticeKeys$Dsa") (TT := T_DA) (N := 17) (kd := (15, 0)) hx hb hts (wg_ft i_DA) hown hK hO k_h0 (nxg hc0 k_h0 rfl) hP (fun _ h9 => h9) rfl 0 (by decide) (hts _ (wg_t kw_165)) (fun _ h9 => h9) (cd := (3, 10, 2)) rfl dDA_digestMessage_1 (fun v21 hv21 => ?_)
  obtain ⟨r21, rfl, kr21⟩ := (show ∃ r : Nat, v21 = .ref r ∧ T r = some (10, 2) from hv21)
  refine lv_iconst (v := nI 3) hx hb dDA_digestMessage_4 (by decide) ?_
  obtain ⟨e21, pl, hP, hD, hk21, hO⟩ := open1 hP hD hO kr21 (nxg hc3 kr21 rfl)
  obtain ⟨ln21, rt21, ps21, x21, rfl, kl21, hr21, hr22, hr23⟩ := hk21
  have kl21 : T ln21 = some (19, 2) := kl21
  obtain ⟨e22, pl, hP, hD, hk22, hO⟩ := open1 hP hD hO kl21 (nmc (knd_ne kl21 kr21 (by decide)) (nxg hc3 kl21 rfl))
  obtain ⟨f21, rfl⟩ := hk22
  have hP : va_P g.1 vcl ([(r21, .inr (3, [.ref ln21, .int (nI rt21), .int x21, .int (nI ps21)])), (ln21, .inl (g.2.1 2, 25, .inr (.inl f21)))] ++ pl) _ := hP
  have hD : va_D _ ([(r21, .inr (3, [.ref ln21, .int (nI rt21), .int x21, .int (nI ps21)])), (ln21, .inl (g.2.1 2, 25, .inr (.inl f21)))] ++ pl) := hD
  refine mp_v (cx := [(r21, .inr (3, [.ref ln21, .int (nI rt21), .int x21, .int (nI ps21)])), (ln21, .inl (g.2.1 2, 25, .inr (.inl f21)))]) (wr := []) hP hD hS hA [0, 1] [] rfl rfl rfl (by decide) (va_runV (As := [.int (nI 3)]) (rest := []) F (t_SP_start_3 l g _ T (ln21 :: (r21 :: xs)) pl hO hU  r21 ln21 rt21 ps21 x21 f21) (cwV 1 hts (wg_app (wg_c kw_669 (wg_c kw_579 (wg_c kw_580 (wg_c kw_2 wg_n)))) kw_581) rfl rfl rfl (by decide +kernel) ⟨by decide, by decide⟩) (pp_V (en_ok g) (q0 := 0) hK hP hD hS hA hE [0, 1] rfl rfl rfl rfl) rfl rfl hl.1 rfl (lv_room (Nat.le_of_ble_eq_true rfl)) dDA_digestMessage_5 ⟨by omega, by omega⟩) (fun  u21 H locs hu21 hP hD hS => ?_)
  obtain ⟨u22, pl⟩ := u21
  obtain ⟨hq21, hO⟩ := hu21
  have hP : va_P g.1 vcl ([(r21, .inr (3, [.ref ln21, .int (nI 136), .int (nI 31), .int (nI 0)])), (ln21, .inl (g.2.1 2, 25, .inr (.inl u22)))] ++ pl) _ := hP
  have hD : va_D _ ([(r21, .inr (3, [.ref ln21, .int (nI 136), .int (nI 31), .int (nI 0)])), (ln21, .inl (g.2.1 2, 25, .inr (.inl u22)))] ++ pl) := hD
  refine W.widen (k := 0) (n := 0) (by omega) (by omega) ?_
  refine lv_aload_n hx hb dDA_digestMessage_8 rfl (lv_at hl 0 rfl) ?_
  refine ty_get (ci := 6) (C := "LatticeKeys$Dsa") (TT := T_DA) (N := 17) (kd := (15, 0)) hx hb hts (wg_ft i_DA) hown hK hO k_h0 (nxg (clo_cons (clo_cons hc0 kr21 (by decide)) kl21 (by decide)) k_h0 rfl) hP (fun _ h9 => h9) rfl 0 (by decide) (hts _ (wg_t kw_165)) (fun _ h9 => h9) (cd := (3, 10, 2)) rfl dDA_digestMessage_9 (fun v22 hv22 => ?_)
  obtain ⟨r22, rfl, kr22⟩ := (show ∃ r : Nat, v22 = .ref r ∧ T r = some (10, 2) from hv22)
  obtain rfl : r21 = r22 := hU _ _ _ (by decide) kr21 kr22
  refine lv_aload_n hx hb dDA_digestMessage_12 rfl (lv_at hl 0 rfl) ?_
  refine ty_get (ci := 6) (C := "LatticeKeys$Dsa") (TT := T_DA) (N := 17) (kd := (15, 0)) hx hb hts (wg_ft i_DA) hown hK hO k_h0 (nxg (clo_cons (clo_cons hc0 kr21 (by decide)) kl21 (by decide)) k_h0 rfl) hP (fun _ h9 => h9) rfl 12 (by decide) (hts _ (wg_t kw_177)) (fun _ h9 => h9) (cd := (3, 1, 64)) rfl dDA_digestMessage_13 (fun v23 hv23 => ?_)
  obtain ⟨r23, rfl, kr23⟩ := (show ∃ r : Nat, v23 = .ref r ∧ T r = some (1, 64) from hv23)
  refine lv_iconst (v := nI 0) hx hb dDA_digestMessage_16 (by decide) ?_
  refine lv_bipush (v := nI 64) hx hb dDA_digestMessage_17 (by decide) ?_
  refine mp_v (cx := [(r21, .inr (3, [.ref ln21, .int (nI 136), .int (nI 31), .int (nI 0)])), (ln21, .inl (g.2.1 2, 25, .inr (.inl u22)))]) (wr := []) hP hD hS hA [0, 1] [] rfl rfl rfl (by decide) (va_runV (As := [.ref r23, .int (nI 0), .int (nI 64)]) (rest := []) F (t_SP_absorb l g _ T (ln21 :: (r21 :: xs)) pl hO hU (clo_cons (clo_cons hc0 kr21 (by decide)) kl21 (by decide)) r23 64 0 64 r21 ln21 136 0 (nI 31) u22 kr23 (by omega) (by omega) (by omega) (by omega)) (cwV 3 hts (wg_app (wg_c kw_670 (wg_c kw_586 (wg_c kw_587 (wg_c kw_2 wg_n)))) kw_588) rfl rfl rfl (by decide +kernel) ⟨by decide, by decide⟩) (pp_V (en_ok g) (q0 := 0) hK hP hD hS hA hE [0, 1] rfl rfl rfl rfl) rfl rfl hl.1 rfl (lv_room (Nat.le_of_ble_eq_true rfl)) dDA_digestMessage_19 ⟨by omega, by omega⟩) (fun  u23 H locs hu22 hP hD hS => ?_)
  obtain ⟨u24, pl⟩ := u23
  obtain ⟨hq22, hO⟩ := hu22
  obtain ⟨k21, f22⟩ := u24
  have hP : va_P g.1 vcl ([(r21, .inr (3, [.ref ln21, .int (nI 136), .int (nI 31), .int (nI k21)])), (ln21, .inl (g.2.1 2, 25, .inr (.inl f22)))] ++ pl) _ := hP
  have hD : va_D _ ([(r21, .inr (3, [.ref ln21, .int (nI 136), .int (nI 31), .int (nI k21)])), (ln21, .inl (g.2.1 2, 25, .inr (.inl f22)))] ++ pl) := hD
  have hq22 : k21 < 136 := hq22
  refine W.widen (k := 0) (n := 0) (by omega) (by omega) ?_
  refine lv_aload_n hx hb dDA_digestMessage_22 rfl (lv_at hl 0 rfl) ?_
  refine ty_get (ci := 6) (C := "LatticeKeys$Dsa") (TT := T_DA) (N := 17) (kd := (15, 0)) hx hb hts (wg_ft i_DA) hown hK hO k_h0 (nxg (clo_cons (clo_cons hc0 kr21 (by decide)) kl21 (by decide)) k_h0 rfl) hP (fun _ h9 => h9) rfl 0 (by decide) (hts _ (wg_t kw_165)) (fun _ h9 => h9) (cd := (3, 10, 2)) rfl dDA_digestMessage_23 (fun v24 hv24 => ?_)
  obtain ⟨r24, rfl, kr24⟩ := (show ∃ r : Nat, v24 = .ref r ∧ T r = some (10, 2) from hv24)
  obtain rfl : r21 = r24 := hU _ _ _ (by decide) kr21 kr24
  refine lv_iconst (v := nI 0) hx hb dDA_digestMessage_26 (by decide) ?_
  refine mp_v (cx := [(r21, .inr (3, [.ref ln21, .int (nI 136), .int (nI 31), .int (nI k21)])), (ln21, .inl (g.2.1 2, 25, .inr (.inl f22)))]) (wr := []) hP hD hS hA [0, 1] [] rfl rfl rfl (by decide) (va_runV (As := [.int (nI 0)]) (rest := []) F (t_SP_absorbByte l g _ T (ln21 :: (r21 :: xs)) pl hO hU  (nI 0) r21 ln21 136 k21 (nI 31) f22 (by omega) (by omega)) (cwV 1 hts (wg_app (wg_c kw_671 (wg_c kw_590 (wg_c kw_591 (wg_c kw_2 wg_n)))) kw_592) rfl rfl rfl (by decide +kernel) ⟨by decide, by decide⟩) (pp_V (en_ok g) (q0 := 0) hK hP hD hS hA hE [0, 1] rfl rfl rfl rfl) rfl rfl hl.1 rfl (lv_room (Nat.le_of_ble_eq_true rfl)) dDA_digestMessage_27 ⟨by omega, by omega⟩) (fun  u25 H locs hu23 hP hD hS => ?_)
  obtain ⟨u26, pl⟩ := u25
  obtain ⟨hq23, hO⟩ := hu23
  obtain ⟨k22, f23⟩ := u26
  have hP : va_P g.1 vcl ([(r21, .inr (3, [.ref ln21, .int (nI 136), .int (nI 31), .int (nI k22)])), (ln21, .inl (g.2.1 2, 25, .inr (.inl f23)))] ++ pl) _ := hP
  have hD : va_D _ ([(r21, .inr (3, [.ref ln21, .int (nI 136), .int (nI 31), .int (nI k22)])), (ln21, .inl (g.2.1 2, 25, .inr (.inl f23)))] ++ pl) := hD
  have hq23 : k22 < 136 := hq23
  refine W.widen (k := 0) (n := 0) (by omega) (by omega) ?_
  refine lv_aload_n hx hb dDA_digestMessage_30 rfl (lv_at hl 0 rfl) ?_
  refine ty_get (ci := 6) (C := "LatticeKeys$Dsa") (TT := T_DA) (N := 17) (kd := (15, 0)) hx hb hts (wg_ft i_DA) hown hK hO k_h0 (nxg (clo_cons (clo_cons hc0 kr21 (by decide)) kl21 (by decide)) k_h0 rfl) hP (fun _ h9 => h9) rfl 0 (by decide) (hts _ (wg_t kw_165)) (fun _ h9 => h9) (cd := (3, 10, 2)) rfl dDA_digestMessage_31 (fun v25 hv25 => ?_)
  obtain ⟨r25, rfl, kr25⟩ := (show ∃ r : Nat, v25 = .ref r ∧ T r = some (10, 2) from hv25)
  obtain rfl : r21 = r25 := hU _ _ _ (by decide) kr21 kr25
  refine lv_iload hx hb dDA_digestMessage_34 (lv_at hl 4 rfl) ?_
  refine mp_v (cx := [(r21, .inr (3, [.ref ln21, .int (nI 136), .int (nI 31), .int (nI k22)])), (ln21, .inl (g.2.1 2, 25, .inr (.inl f23)))]) (wr := []) hP hD hS hA [0, 1] [] rfl rfl rfl (by decide) (va_runV (As := [.int cl]) (rest := []) F (t_SP_absorbByte l g _ T (ln21 :: (r21 :: xs)) pl hO hU  cl r21 ln21 136 k22 (nI 31) f23 (by omega) (by omega)) (cwV 1 hts (wg_app (wg_c kw_671 (wg_c kw_590 (wg_c kw_591 (wg_c kw_2 wg_n)))) kw_592) rfl rfl rfl (by decide +kernel) ⟨by decide, by decide⟩) (pp_V (en_ok g) (q0 := 0) hK hP hD hS hA hE [0, 1] rfl rfl rfl rfl) rfl rfl hl.1 rfl (lv_room (Nat.le_of_ble_eq_true rfl)) dDA_digestMessage_36 ⟨by omega, by omega⟩) (fun  u27 H locs hu24 hP hD hS => ?_)
  obtain ⟨u28, pl⟩ := u27
  obtain ⟨hq24, hO⟩ := hu24
  obtain ⟨k23, f24⟩ := u28
  have hP : va_P g.1 vcl ([(r21, .inr (3, [.ref ln21, .int (nI 136), .int (nI 31), .int (nI k23)])), (ln21, .inl (g.2.1 2, 25, .inr (.inl f24)))] ++ pl) _ := hP
  have hD : va_D _ ([(r21, .inr (3, [.ref ln21, .int (nI 136), .int (nI 31), .int (nI k23)])), (ln21, .inl (g.2.1 2, 25, .inr (.inl f24)))] ++ pl) := hD
  have hq24 : k23 < 136 := hq24
  refine W.widen (k := 0) (n := 0) (by omega) (by omega) ?_
  refine lv_aload_n hx hb dDA_digestMessage_39 rfl (lv_at hl 0 rfl) ?_
  refine ty_get (ci := 6) (C := "LatticeKeys$Dsa") (TT := T_DA) (N := 17) (kd := (15, 0)) hx hb hts (wg_ft i_DA) hown hK hO k_h0 (nxg (clo_cons (clo_cons hc0 kr21 (by decide)) kl21 (by decide)) k_h0 rfl) hP (fun _ h9 => h9) rfl 0 (by decide) (hts _ (wg_t kw_165)) (fun _ h9 => h9) (cd := (3, 10, 2)) rfl dDA_digestMessage_40 (fun v26 hv26 => ?_)
  obtain ⟨r26, rfl, kr26⟩ := (show ∃ r : Nat, v26 = .ref r ∧ T r = some (10, 2) from hv26)
  obtain rfl : r21 = r26 := hU _ _ _ (by decide) kr21 kr26
  refine lv_aload_n hx hb dDA_digestMessage_43 rfl (lv_at hl 1 rfl) ?_
  refine lv_iload_n hx hb dDA_digestMessage_44 rfl (lv_at hl 2 rfl) ?_
  refine lv_iload_n hx hb dDA_digestMessage_45 rfl (lv_at hl 3 rfl) ?_
  refine lv_iload_n hx hb dDA_digestMessage_46 rfl (lv_at hl 2 rfl) ?_
  refine mi_isub hx hb dDA_digestMessage_47 (by omega) ?_
  refine mp_v (cx := [(r21, .inr (3, [.ref ln21, .int (nI 136), .int (nI 31), .int (nI k23)])), (ln21, .inl (g.2.1 2, 25, .inr (.inl f24)))]) (wr := []) hP hD hS hA [0, 1] [] rfl rfl rfl (by decide) (va_runV (As := [.ref b, .int (nI fr), .int (nI (to_ - fr))]) (rest := []) F (t_SP_absorb l g _ T (ln21 :: (r21 :: xs)) pl hO hU (clo_cons (clo_cons hc0 kr21 (by decide)) kl21 (by decide)) b n fr (to_ - fr) r21 ln21 136 k23 (nI 31) f24 k_b (by omega) (by omega) (by omega) (by omega)) (cwV 3 hts (wg_app (wg_c kw_670 (wg_c kw_586 (wg_c kw_587 (wg_c kw_2 wg_n)))) kw_588) rfl rfl rfl (by decide +kernel) ⟨by decide, by decide⟩) (pp_V (en_ok g) (q0 := 0) hK hP hD hS hA hE [0, 1] rfl rfl rfl rfl) rfl rfl hl.1 rfl (lv_room (Nat.le_of_ble_eq_true rfl)) dDA_digestMessage_48 ⟨by omega, by omega⟩) (fun  u29 H locs hu25 hP hD hS => ?_)
  obtain ⟨u30, pl⟩ := u29
  obtain ⟨hq25, hO⟩ := hu25
  obtain ⟨k24, f25⟩ := u30
  have hP : va_P g.1 vcl ([(r21, .inr (3, [.ref ln21, .int (nI 136), .int (nI 31), .int (nI k24)])), (ln21, .inl (g.2.1 2, 25, .inr (.inl f25)))] ++ pl) _ := hP
  have hD : va_D _ ([(r21, .inr (3, [.ref ln21, .int (nI 136), .int (nI 31), .int (nI k24)])), (ln21, .inl (g.2.1 2, 25, .inr (.inl f25)))] ++ pl) := hD
  have hq25 : k24 < 136 := hq25
  refine W.widen (k := 0) (n := 0) (by omega) (by omega) ?_
  refine lv_aload_n hx hb dDA_digestMessage_51 rfl (lv_at hl 0 rfl) ?_
  refine ty_get (ci := 6) (C := "LatticeKeys$Dsa") (TT := T_DA) (N := 17) (kd := (15, 0)) hx hb hts (wg_ft i_DA) hown hK hO k_h0 (nxg (clo_cons (clo_cons hc0 kr21 (by decide)) kl21 (by decide)) k_h0 rfl) hP (fun _ h9 => h9) rfl 0 (by decide) (hts _ (wg_t kw_165)) (fun _ h9 => h9) (cd := (3, 10, 2)) rfl dDA_digestMessage_52 (fun v27 hv27 => ?_)
  obtain ⟨r27, rfl, kr27⟩ := (show ∃ r : Nat, v27 = .ref r ∧ T r = some (10, 2) from hv27)
  obtain rfl : r21 = r27 := hU _ _ _ (by decide) kr21 kr27
  refine mp_v (cx := [(r21, .inr (3, [.ref ln21, .int (nI 136), .int (nI 31), .int (nI k24)])), (ln21, .inl (g.2.1 2, 25, .inr (.inl f25)))]) (wr := []) hP hD hS hA [0, 1] [] rfl rfl rfl (by decide) (va_runV (As := []) (rest := []) F (t_SP_finish l g _ T (ln21 :: (r21 :: xs)) pl hO hU  r21 ln21 136 k24 (nI 31) f25 (by omega) (by omega)) (cwV 0 hts (wg_app (wg_c kw_672 (wg_c kw_611 (wg_c kw_612 (wg_c kw_2 wg_n)))) kw_613) rfl rfl rfl (by decide +kernel) ⟨by decide, by decide⟩) (pp_V (en_ok g) (q0 := 0) hK hP hD hS hA hE [0, 1] rfl rfl rfl rfl) rfl rfl hl.1 rfl (lv_room (Nat.le_of_ble_eq_true rfl)) dDA_digestMessage_55 ⟨by omega, by omega⟩) (fun  u31 H locs hu26 hP hD hS => ?_)
  obtain ⟨u32, pl⟩ := u31
  obtain ⟨hq26, hO⟩ := hu26
  have hP : va_P g.1 vcl ([(r21, .inr (3, [.ref ln21, .int (nI 136), .int (nI 31), .int (nI 136)])), (ln21, .inl (g.2.1 2, 25, .inr (.inl u32)))] ++ pl) _ := hP
  have hD : va_D _ ([(r21, .inr (3, [.ref ln21, .int (nI 136), .int (nI 31), .int (nI 136)])), (ln21, .inl (g.2.1 2, 25, .inr (.inl u32)))] ++ pl) := hD
  refine W.widen (k := 0) (n := 0) (by omega) (by omega) ?_
  refine lv_aload_n hx hb dDA_digestMessage_58 rfl (lv_at hl 0 rfl) ?_
  refine ty_get (ci := 6) (C := "LatticeKeys$Dsa") (TT := T_DA) (N := 17) (kd := (15, 0)) hx hb hts (wg_ft i_DA) hown hK hO k_h0 (nxg (clo_cons (clo_cons hc0 kr21 (by decide)) kl21 (by decide)) k_h0 rfl) hP (fun _ h9 => h9) rfl 0 (by decide) (hts _ (wg_t kw_165)) (fun _ h9 => h9) (cd := (3, 10, 2)) rfl dDA_digestMessage_59 (fun v28 hv28 => ?_)
  obtain ⟨r28, rfl, kr28⟩ := (show ∃ r : Nat, v28 = .ref r ∧ T r = some (10, 2) from hv28)
  obtain rfl : r21 = r28 := hU _ _ _ (by decide) kr21 kr28
  refine lv_aload_n hx hb dDA_digestMessage_62 rfl (lv_at hl 0 rfl) ?_
  refine ty_get (ci := 6) (C := "LatticeKeys$Dsa") (TT := T_DA) (N := 17) (kd := (15, 0)) hx hb hts (wg_ft i_DA) hown hK hO k_h0 (nxg (clo_cons (clo_cons hc0 kr21 (by decide)) kl21 (by decide)) k_h0 rfl) hP (fun _ h9 => h9) rfl 12 (by decide) (hts _ (wg_t kw_177)) (fun _ h9 => h9) (cd := (3, 1, 64)) rfl dDA_digestMessage_63 (fun v29 hv29 => ?_)
  obtain ⟨r29, rfl, kr29⟩ := (show ∃ r : Nat, v29 = .ref r ∧ T r = some (1, 64) from hv29)
  refine lv_iconst (v := nI 0) hx hb dDA_digestMessage_66 (by decide) ?_
  refine lv_bipush (v := nI 64) hx hb dDA_digestMessage_67 (by decide) ?_
  refine mp_v (cx := [(r21, .inr (3, [.ref ln21, .int (nI 136), .int (nI 31), .int (nI 136)])), (ln21, .inl (g.2.1 2, 25, .inr (.inl u32)))]) (wr := []) hP hD hS hA [0, 1] [] rfl rfl rfl (by decide) (va_runV (As := [.ref r29, .int (nI 0), .int (nI 64)]) (rest := []) F (t_SP_squeeze l g _ T (ln21 :: (r21 :: xs)) pl hO hU (clo_cons (clo_cons hc0 kr21 (by decide)) kl21 (by decide)) r29 64 0 64 r21 ln21 136 136 (nI 31) u32 kr29 (by omega) (by omega) (by omega) (by omega)) (cwV 3 hts (wg_app (wg_c kw_673 (wg_c kw_615 (wg_c kw_616 (wg_c kw_2 wg_n)))) kw_617) rfl rfl rfl (by decide +kernel) ⟨by decide, by decide⟩) (pp_V (en_ok g) (q0 := 0) hK hP hD hS hA hE [0, 1] rfl rfl rfl rfl) rfl rfl hl.1 rfl (lv_room (Nat.le_of_ble_eq_true rfl)) dDA_digestMessage_69 ⟨by omega, by omega⟩) (fun  u33 H locs hu27 hP hD hS => ?_)
  obtain ⟨u34, pl⟩ := u33
  obtain ⟨hq27, hO⟩ := hu27
  obtain ⟨k25, f26⟩ := u34
  have hP : va_P g.1 vcl ([(r21, .inr (3, [.ref ln21, .int (nI 136), .int (nI 31), .int (nI k25)])), (ln21, .inl (g.2.1 2, 25, .inr (.inl f26)))] ++ pl) _ := hP
  have hD : va_D _ ([(r21, .inr (3, [.ref ln21, .int (nI 136), .int (nI 31), .int (nI k25)])), (ln21, .inl (g.2.1 2, 25, .inr (.inl f26)))] ++ pl) := hD
  have hq27 : k25 ≤ 136 := hq27
  refine W.widen (k := 0) (n := 0) (by omega) (by omega) ?_
  have hO := close1 (e := .inl (g.2.1 2, 25, .inr (.inl f26))) hO kl21 ⟨_, rfl⟩
  have hO := close1 (e := .inr (3, [.ref ln21, .int (nI 136), .int (nI 31), .int (nI k25)])) hO kr21 ⟨_, _, _, _, rfl, kl21, by omega, by omega, by omega⟩
  have hO : okx g T xs ((r21, .inr (3, [.ref ln21, .int (nI 136), .int (nI 31), .int (nI k25)])) :: (ln21, .inl (g.2.1 2, 25, .inr (.inl f26))) :: pl) := hO
  have hP : va_P g.1 vcl ([] ++ ((r21, .inr (3, [.ref ln21, .int (nI 136), .int (nI 31), .int (nI k25)])) :: (ln21, .inl (g.2.1 2, 25, .inr (.inl f26))) :: pl)) _ := hP
  have hD : va_D _ ([] ++ ((r21, .inr (3, [.ref ln21, .int (nI 136), .int (nI 31), .int (nI k25)])) :: (ln21, .inl (g.2.1 2, 25, .inr (.inl f26))) :: pl)) := hD
  generalize ((r21, .inr (3, [.ref ln21, .int (nI 136), .int (nI 31), .int (nI k25)])) :: (ln21, .inl (g.2.1 2, 25, .inr (.inl f26))) :: pl) = pl at hO hP hD
  exact mp_vret hx hb hr hlk hP hD hS pl ⟨trivial, hO⟩ [] rfl rfl rfl (by omega) (by omega) dDA_digestMessage_72
set_option maxHeartbeats 400000 in
set_option maxRecDepth 100000 in
theorem t_DA_readFlipped (l : Launch) (g : Gd) (sz : Nat) (T : Ty) (xs : List Nat) (pl : va_W) (hO : okx g T xs pl) (hU : uni T) (hc0 : clo T xs 0) (h0 f fr n b at_ : Nat) (tp : Int32) (k_h0 : T h0 = some (15, 0)) (k_f : T f = some (0, 256)) (k_fr : T fr = some (1, n)) (h1 : at_ + 32 * b ≤ n) (h2 : n < 65536) (h3 : b < 32)  : Met l y_DA_readFlipped w_DA_readFlipped ({ frames := 1, cells := 0, slots := 0, locals := 28 } : Room) (va_Pc [.ref h0, .ref f, .int (nI b), .int tp, .ref fr, .int (nI at_)] (pr (en g) g.1 vcl sz ([] ++ pl))) (va_Qv (fun (u : va_W) => (True) ∧ okx g T xs u) (po g.1 vcl (va_A ([] ++ pl) sz) (fun (u : va_W) => [] ++ u)) (va_A ([] ++ pl) sz)) 0 0 (va_A ([] ++ pl) sz) := by
  refine mc_entry (cc := c_DA_readFlipped) (maxL := 6) (ret := none) (by decide) rfl (Nat.le_of_ble_eq_true rfl) ?_
  intro p e s m args below meth c ls F hr hlk hnm hsz hP hD hE hA hl
  obtain ⟨hx, hb, hml, hown, hts⟩ := id F
  have hK := hE.1
  generalize va_A ([] ++ pl) sz = A at hD hE hA ⊢
  have hS : va_S A s.heap s.heap [] := va_S.rf
  have hl : lv_has ls 6 [(0, .ref h0), (1, .ref f), (2, .int (nI b)), (3, .int tp), (4, .ref fr), (5, .int (nI at_))] := hl
  refine lv_aload_n hx hb dDA_readFlipped_0 rfl (lv_at hl 1 rfl) ?_
  refine lv_iload_n hx hb dDA_readFlipped_1 rfl (lv_at hl 2 rfl) ?_
  refine lv_aload hx hb dDA_readFlipped_2 (lv_at hl 4 rfl) ?_
  refine lv_iload hx hb dDA_readFlipped_4 (lv_at hl 5 rfl) ?_
  refine mp_v (cx := []) (wr := []) hP hD hS hA [] [] rfl rfl rfl (by decide) (va_runS (As := [.ref f, .int (nI b), .ref fr, .int (nI at_)]) (rest := []) F (t_BT_unpack l g _ T xs pl hO hU hc0 f fr n b at_ k_f k_fr (by omega) (by omega) (by omega)) (va_cwS 4 hts (wg_app (wg_c kw_1187 (wg_c kw_628 (wg_c kw_22 wg_n))) kw_629) rfl rfl rfl (by decide +kernel) ⟨by decide, by decide⟩) (pp_S (en_ok g) hP hD hS hA hE [] rfl rfl) rfl rfl hl.1 rfl (lv_room (Nat.le_of_ble_eq_true rfl)) dDA_readFlipped_6 ⟨by omega, by omega⟩) (fun  pl H locs hu21 hP hD hS => ?_)
  obtain ⟨hq21, hO⟩ := hu21
  have hP : va_P g.1 vcl ([] ++ pl) _ := hP
  have hD : va_D _ ([] ++ pl) := hD
  refine W.widen (k := 0) (n := 0) (by omega) (by omega) ?_
  refine lv_aload_n hx hb dDA_readFlipped_9 rfl (lv_at hl 0 rfl) ?_
  refine ty_get (ci := 6) (C := "LatticeKeys$Dsa") (TT := T_DA) (N := 17) (kd := (15, 0)) hx hb hts (wg_ft i_DA) hown hK hO k_h0 (nxg hc0 k_h0 rfl) hP (fun _ h9 => h9) rfl 1 (by decide) (hts _ (wg_t kw_166)) (fun _ h9 => h9) (cd := (3, 12, 0)) rfl dDA_readFlipped_10 (fun v21 hv21 => ?_)
  obtain ⟨r21, rfl, kr21⟩ := (show ∃ r : Nat, v21 = .ref r ∧ T r = some (12, 0) from hv21)
  refine lv_aload_n hx hb dDA_readFlipped_13 rfl (lv_at hl 1 rfl) ?_
  refine lv_iload_n hx hb dDA_readFlipped_14 rfl (lv_at hl 3 rfl) ?_
  refine lv_aload_n hx hb dDA_readFlipped_15 rfl (lv_at hl 1 rfl) ?_
  refine mp_v (cx := []) (wr := []) hP hD hS hA [] [] rfl rfl rfl (by decide) (va_runV (As := [.ref f, .int tp, .ref f]) (rest := []) F (t_RG_flip_12 l g _ T xs pl hO hU hc0 r21 f f tp kr21 k_f k_f) (cwV 3 hts (wg_app (wg_c kw_698 (wg_c kw_699 (wg_c kw_700 (wg_c kw_4 wg_n)))) kw_701) rfl rfl rfl (by decide +kernel) ⟨by decide, by decide⟩) (pp_VT (en_ok g) (ci := 4) (kd := (12, 0)) hK hO kr21 (nxg hc0 kr21 rfl) (fun _ h9 => ko1 h9) hP hD hS hA hE [] rfl rfl rfl) rfl rfl hl.1 rfl (lv_room (Nat.le_of_ble_eq_true rfl)) dDA_readFlipped_16 ⟨by omega, by omega⟩) (fun  pl H locs hu22 hP hD hS => ?_)
  obtain ⟨hq22, hO⟩ := hu22
  have hP : va_P g.1 vcl ([] ++ pl) _ := hP
  have hD : va_D _ ([] ++ pl) := hD
  refine W.widen (k := 0) (n := 0) (by omega) (by omega) ?_
  exact mp_vret hx hb hr hlk hP hD hS pl ⟨trivial, hO⟩ [] rfl rfl rfl (by omega) (by omega) dDA_readFlipped_19
set_option maxHeartbeats 400000 in
set_option maxRecDepth 100000 in
theorem t_DA_splitRow (l : Launch) (g : Gd) (sz : Nat) (T : Ty) (xs : List Nat) (pl : va_W) (hO : okx g T xs pl) (hU : uni T) (hc0 : clo T xs 0) (h0 f : Nat) (k_h0 : T h0 = some (15, 0)) (k_f : T f = some (0, 256))  : Met l y_DA_splitRow w_DA_splitRow ({ frames := 0, cells := 0, slots := 0, locals := 0 } : Room) (va_Pc [.ref h0, .ref f] (pr (en g) g.1 vcl sz ([] ++ pl))) (va_Qv (fun (u : va_W) => (True) ∧ okx g T xs u) (po g.1 vcl (va_A ([] ++ pl) sz) (fun (u : va_W) => [] ++ u)) (va_A ([] ++ pl) sz)) 0 0 (va_A ([] ++ pl) sz) := by
  refine mc_entry (cc := c_DA_splitRow) (maxL := 5) (ret := none) (by decide) rfl (Nat.le_of_ble_eq_true rfl) ?_
  intro p e s m args below meth c ls F hr hlk hnm hsz hP hD hE hA hl
  obtain ⟨hx, hb, hml, hown, hts⟩ := id F
  have hK := hE.1
  generalize va_A ([] ++ pl) sz = A at hD hE hA ⊢
  have hS : va_S A s.heap s.heap [] := va_S.rf
  have hl : lv_has ls 5 [(0, .ref h0), (1, .ref f)] := hl
  refine lv_sipush (v := nI 4096) hx hb dDA_splitRow_0 (by decide) ?_
  refine lv_istore_n (lv' := [(2, .int (nI 4096)), (0, .ref h0), (1, .ref f)]) hx hb dDA_splitRow_3 rfl hl (by decide) rfl (fun ls hl => ?_)
  refine lv_iconst (v := nI 0) hx hb dDA_splitRow_4 (by decide) ?_
  refine lv_istore_n (lv' := [(3, .int (nI 0)), (2, .int (nI 4096)), (0, .ref h0), (1, .ref f)]) hx hb dDA_splitRow_5 rfl hl (by decide) rfl (fun ls hl => ?_)
  have lp21 : ∀ (n21 : Nat) (i21 : Nat) (pl : va_W) (ls : Array Slot) (H : Heap) (locs : List Loc), n21 + i21 = 256 → lv_has ls 5 [(3, .int (nI i21)), (2, .int (nI 4096)), (0, .ref h0), (1, .ref f)] → okx g T xs pl → va_P g.1 vcl ([] ++ pl) H → va_D A ([] ++ pl) → va_S A s.heap H locs → W p l e ({ frames := 0, cells := 0, slots := 0, locals := 0 } : Room) s m args below meth c H locs 0 0 (MQ below (va_Qv (fun (u : va_W) => (True) ∧ okx g T xs u) (po g.1 vcl A (fun (u : va_W) => [] ++ u)) A) args s 0 0 A) (F0 m 6 ls []) := by
    intro n21
    induction n21 with
    | zero =>
      intro i21 pl ls H locs hm21  hl hO hP hD hS
      refine lv_iload_n hx hb dDA_splitRow_6 rfl (lv_at hl 0 rfl) ?_
      refine lv_sipush (v := nI 256) hx hb dDA_splitRow_7 (by decide) ?_
      refine mi_ge (tgt := 71) hx hb dDA_splitRow_10 (by decide) (by omega) (by omega) (fun h21 => ?_) (fun h21 => absurd h21 (by omega))
      exact mp_vret hx hb hr hlk hP hD hS pl ⟨trivial, hO⟩ [] rfl rfl rfl (by omega) (by omega) dDA_splitRow_71
    | succ n21 ih21 =>
      intro i21 pl ls H locs hm21  hl hO hP hD hS
      refine lv_iload_n hx hb dDA_splitRow_6 rfl (lv_at hl 0 rfl) ?_
      refine lv_sipush (v := nI 256) hx hb dDA_splitRow_7 (by decide) ?_
      refine mi_ge (tgt := 71) hx hb dDA_splitRow_10 (by decide) (by omega) (by omega) (fun h22 => absurd h22 (by omega)) (fun h22 => ?_)
      refine lv_aload_n hx hb dDA_splitRow_13 rfl (lv_at hl 3 rfl) ?_
      refine lv_iload_n hx hb dDA_splitRow_14 rfl (lv_at hl 0 rfl) ?_
      refine ty_iald hx hb hK hO k_f (nxg hc0 k_f rfl) hP (vp_in_nI (by omega) (by decide)) dDA_splitRow_15 (fun z21 => ?_)
      refine lv_iconst (v := nI 2) hx hb dDA_splitRow_16 (by decide) ?_
      refine lv_iload_n hx hb dDA_splitRow_17 rfl (lv_at hl 1 rfl) ?_
      refine mi_imul hx hb dDA_splitRow_18 ?_
      refine mi_as (show nI (2 * 4096) = nI 8192 from rfl) ?_
      refine lv_iconst (v := nI 1) hx hb dDA_splitRow_19 (by decide) ?_
      refine mi_isub hx hb dDA_splitRow_20 (by omega) ?_
      refine mi_as (show nI (8192 - 1) = nI 8191 from rfl) ?_
      refine lv_iand hx hb dDA_splitRow_21 ?_
      refine mi_any (fun z22 => ?_)
      refine lv_istore (lv' := [(4, .int z22), (3, .int (nI i21)), (2, .int (nI 4096)), (0, .ref h0), (1, .ref f)]) hx hb dDA_splitRow_22 hl (by decide) rfl (fun ls hl => ?_)
      refine lv_iload hx hb dDA_splitRow_24 (lv_at hl 0 rfl) ?_
      refine lv_iload_n hx hb dDA_splitRow_26 rfl (lv_at hl 2 rfl) ?_
      refine lv_icmp_le (tgt := 39) hx hb dDA_splitRow_27 (by decide) (fun h23 => ?_) (fun h23 => ?_)
      · refine lv_iload hx hb dDA_splitRow_39 (lv_at hl 0 rfl) ?_
        refine lv_istore (lv' := [(4, .int z22), (3, .int (nI i21)), (2, .int (nI 4096)), (0, .ref h0), (1, .ref f)]) hx hb dDA_splitRow_41 hl (by decide) rfl (fun ls hl => ?_)
        refine lv_aload_n hx hb dDA_splitRow_43 rfl (lv_at hl 3 rfl) ?_
        refine ty_get (ci := 6) (C := "LatticeKeys$Dsa") (TT := T_DA) (N := 17) (kd := (15, 0)) hx hb hts (wg_ft i_DA) hown hK hO k_h0 (nxg hc0 k_h0 rfl) hP (fun _ h9 => h9) rfl 10 (by decide) (hts _ (wg_t kw_175)) (fun _ h9 => h9) (cd := (3, 0, 256)) rfl dDA_splitRow_44 (fun v21 hv21 => ?_)
        obtain ⟨r21, rfl, kr21⟩ := (show ∃ r : Nat, v21 = .ref r ∧ T r = some (0, 256) from hv21)
        refine lv_iload_n hx hb dDA_splitRow_47 rfl (lv_at hl 1 rfl) ?_
        refine lv_iload_n hx hb dDA_splitRow_48 rfl (lv_at hl 2 rfl) ?_
        refine lv_iload hx hb dDA_splitRow_49 (lv_at hl 0 rfl) ?_
        refine lv_isub hx hb dDA_splitRow_51 ?_
        refine mi_any (fun z23 => ?_)
        refine ty_iast hx hb hK hO kr21 (nxg hc0 kr21 rfl) hP hD hS (vp_in_nI (by omega) (by decide)) dDA_splitRow_52 (fun pl H locs hO hP hD hS => ?_)
        refine lv_aload_n hx hb dDA_splitRow_53 rfl (lv_at hl 4 rfl) ?_
        refine lv_iload_n hx hb dDA_splitRow_54 rfl (lv_at hl 1 rfl) ?_
        refine lv_aload_n hx hb dDA_splitRow_55 rfl (lv_at hl 4 rfl) ?_
        refine lv_iload_n hx hb dDA_splitRow_56 rfl (lv_at hl 1 rfl) ?_
        refine ty_iald hx hb hK hO k_f (nxg hc0 k_f rfl) hP (vp_in_nI (by omega) (by decide)) dDA_splitRow_57 (fun z24 => ?_)
        refine lv_iload hx hb dDA_splitRow_58 (lv_at hl 0 rfl) ?_
        refine lv_isub hx hb dDA_splitRow_60 ?_
        refine mi_any (fun z25 => ?_)
        refine lv_bipush (v := nI 13) hx hb dDA_splitRow_61 (by decide) ?_
        refine lv_ishr hx hb dDA_splitRow_63 ?_
        refine mi_any (fun z26 => ?_)
        refine ty_iast hx hb hK hO k_f (nxg hc0 k_f rfl) hP hD hS (vp_in_nI (by omega) (by decide)) dDA_splitRow_64 (fun pl H locs hO hP hD hS => ?_)
        refine mi_iinc (k := 1) (x := i21) (d := 1) (y := i21 + 1) (lv' := [(3, .int (nI (i21 + 1))), (4, .int z22), (2, .int (nI 4096)), (0, .ref h0), (1, .ref f)]) hx hb dDA_splitRow_65 hl rfl (by decide) rfl (by decide) rfl (fun ls hl => ?_)
        refine lv_goto (tgt := 6) hx hb dDA_splitRow_68 (by decide) ?_
        exact ih21 (i21 + 1) pl ls H locs (by omega) (lv_sub hl [0, 2, 3, 4] rfl) hO hP hD hS
      · refine lv_iload hx hb dDA_splitRow_30 (lv_at hl 0 rfl) ?_
        refine lv_iconst (v := nI 2) hx hb dDA_splitRow_32 (by decide) ?_
        refine lv_iload_n hx hb dDA_splitRow_33 rfl (lv_at hl 2 rfl) ?_
        refine mi_imul hx hb dDA_splitRow_34 ?_
        refine mi_as (show nI (2 * 4096) = nI 8192 from rfl) ?_
        refine lv_isub hx hb dDA_splitRow_35 ?_
        refine mi_any (fun z27 => ?_)
        refine lv_goto (tgt := 41) hx hb dDA_splitRow_36 (by decide) ?_
        refine lv_istore (lv' := [(4, .int z27), (3, .int (nI i21)), (2, .int (nI 4096)), (0, .ref h0), (1, .ref f)]) hx hb dDA_splitRow_41 hl (by decide) rfl (fun ls hl => ?_)
        refine lv_aload_n hx hb dDA_splitRow_43 rfl (lv_at hl 3 rfl) ?_
        refine ty_get (ci := 6) (C := "LatticeKeys$Dsa") (TT := T_DA) (N := 17) (kd := (15, 0)) hx hb hts (wg_ft i_DA) hown hK hO k_h0 (nxg hc0 k_h0 rfl) hP (fun _ h9 => h9) rfl 10 (by decide) (hts _ (wg_t kw_175)) (fun _ h9 => h9) (cd := (3, 0, 256)) rfl dDA_splitRow_44 (fun v22 hv22 => ?_)
        obtain ⟨r22, rfl, kr22⟩ := (show ∃ r : Nat, v22 = .ref r ∧ T r = some (0, 256) from hv22)
        refine lv_iload_n hx hb dDA_splitRow_47 rfl (lv_at hl 1 rfl) ?_
        refine lv_iload_n hx hb dDA_splitRow_48 rfl (lv_at hl 2 rfl) ?_
        refine lv_iload hx hb dDA_splitRow_49 (lv_at hl 0 rfl) ?_
        refine lv_isub hx hb dDA_splitRow_51 ?_
        refine mi_any (fun z28 => ?_)
        refine ty_iast hx hb hK hO kr22 (nxg hc0 kr22 rfl) hP hD hS (vp_in_nI (by omega) (by decide)) dDA_splitRow_52 (fun pl H locs hO hP hD hS => ?_)
        refine lv_aload_n hx hb dDA_splitRow_53 rfl (lv_at hl 4 rfl) ?_
        refine lv_iload_n hx hb dDA_splitRow_54 rfl (lv_at hl 1 rfl) ?_
        refine lv_aload_n hx hb dDA_splitRow_55 rfl (lv_at hl 4 rfl) ?_
        refine lv_iload_n hx hb dDA_splitRow_56 rfl (lv_at hl 1 rfl) ?_
        refine ty_iald hx hb hK hO k_f (nxg hc0 k_f rfl) hP (vp_in_nI (by omega) (by decide)) dDA_splitRow_57 (fun z29 => ?_)
        refine lv_iload hx hb dDA_splitRow_58 (lv_at hl 0 rfl) ?_
        refine lv_isub hx hb dDA_splitRow_60 ?_
        refine mi_any (fun z30 => ?_)
        refine lv_bipush (v := nI 13) hx hb dDA_splitRow_61 (by decide) ?_
        refine lv_ishr hx hb dDA_splitRow_63 ?_
        refine mi_any (fun z31 => ?_)
        refine ty_iast hx hb hK hO k_f (nxg hc0 k_f rfl) hP hD hS (vp_in_nI (by omega) (by decide)) dDA_splitRow_64 (fun pl H locs hO hP hD hS => ?_)
        refine mi_iinc (k := 1) (x := i21) (d := 1) (y := i21 + 1) (lv' := [(3, .int (nI (i21 + 1))), (4, .int z27), (2, .int (nI 4096)), (0, .ref h0), (1, .ref f)]) hx hb dDA_splitRow_65 hl rfl (by decide) rfl (by decide) rfl (fun ls hl => ?_)
        refine lv_goto (tgt := 6) hx hb dDA_splitRow_68 (by decide) ?_
        exact ih21 (i21 + 1) pl ls H locs (by omega) (lv_sub hl [0, 2, 3, 4] rfl) hO hP hD hS
  exact lp21 256 0 pl ls _ _ (by omega) (lv_sub hl [0, 1, 2, 3] rfl) hO hP hD hS
set_option maxHeartbeats 400000 in
set_option maxRecDepth 100000 in
theorem t_DA_multiplyBall (l : Launch) (g : Gd) (sz : Nat) (T : Ty) (xs : List Nat) (pl : va_W) (hO : okx g T xs pl) (hU : uni T) (hc0 : clo T xs 0) (h0 f : Nat) (k_h0 : T h0 = some (15, 0)) (k_f : T f = some (0, 256))  : Met l y_DA_multiplyBall w_DA_multiplyBall ({ frames := 2, cells := 0, slots := 0, locals := 53 } : Room) (va_Pc [.ref h0, .ref f] (pr (en g) g.1 vcl sz ([] ++ pl))) (va_Qv (fun (u : va_W) => (True) ∧ okx g T xs u) (po g.1 vcl (va_A ([] ++ pl) sz) (fun (u : va_W) => [] ++ u)) (va_A ([] ++ pl) sz)) 0 0 (va_A ([] ++ pl) sz) := by
  refine mc_entry (cc := c_DA_multiplyBall) (maxL := 2) (ret := none) (by decide) rfl (Nat.le_of_ble_eq_true rfl) ?_
  intro p e s m args below meth c ls F hr hlk hnm hsz hP hD hE hA hl
  obtain ⟨hx, hb, hml, hown, hts⟩ := id F
  have hK := hE.1
  generalize va_A ([] ++ pl) sz = A at hD hE hA ⊢
  have hS : va_S A s.heap s.heap [] := va_S.rf
  have hl : lv_has ls 2 [(0, .ref h0), (1, .ref f)] := hl
  refine lv_aload_n hx hb dDA_multiplyBall_0 rfl (lv_at hl 0 rfl) ?_
  refine ty_get (ci := 6) (C := "LatticeKeys$Dsa") (TT := T_DA) (N := 17) (kd := (15, 0)) hx hb hts (wg_ft i_DA) hown hK hO k_h0 (nxg hc0 k_h0 rfl) hP (fun _ h9 => h9) rfl 10 (by decide) (hts _ (wg_t kw_175)) (fun _ h9 => h9) (cd := (3, 0, 256)) rfl dDA_multiplyBall_1 (fun v21 hv21 => ?_)
  obtain ⟨r21, rfl, kr21⟩ := (show ∃ r : Nat, v21 = .ref r ∧ T r = some (0, 256) from hv21)
  refine lv_iconst (v := nI 0) hx hb dDA_multiplyBall_4 (by decide) ?_
  refine mp_v (cx := []) (wr := []) hP hD hS hA [] [] rfl rfl rfl (by decide) (va_runS (As := [.ref r21, .int (nI 0)]) (rest := []) F (t_fillI l g _ T xs pl hO hU hc0 r21 256 (nI 0) kr21 (by omega)) (va_cwS 2 hts (wg_app (wg_c kw_716 (wg_c kw_717 (wg_c kw_21 wg_n))) kw_718) rfl rfl rfl (by decide +kernel) ⟨by decide, by decide⟩) (pp_S (en_ok g) hP hD hS hA hE [] rfl rfl) rfl rfl hl.1 rfl (lv_room (Nat.le_of_ble_eq_true rfl)) dDA_multiplyBall_5 ⟨by omega, by omega⟩) (fun  pl H locs hu21 hP hD hS => ?_)
  obtain ⟨hq21, hO⟩ := hu21
  have hP : va_P g.1 vcl ([] ++ pl) _ := hP
  have hD : va_D _ ([] ++ pl) := hD
  refine W.widen (k := 0) (n := 0) (by omega) (by omega) ?_
  refine lv_aload_n hx hb dDA_multiplyBall_8 rfl (lv_at hl 0 rfl) ?_
  refine ty_get (ci := 6) (C := "LatticeKeys$Dsa") (TT := T_DA) (N := 17) (kd := (15, 0)) hx hb hts (wg_ft i_DA) hown hK hO k_h0 (nxg hc0 k_h0 rfl) hP (fun _ h9 => h9) rfl 1 (by decide) (hts _ (wg_t kw_166)) (fun _ h9 => h9) (cd := (3, 12, 0)) rfl dDA_multiplyBall_9 (fun v22 hv22 => ?_)
  obtain ⟨r22, rfl, kr22⟩ := (show ∃ r : Nat, v22 = .ref r ∧ T r = some (12, 0) from hv22)
  refine lv_aload_n hx hb dDA_multiplyBall_12 rfl (lv_at hl 0 rfl) ?_
  refine ty_get (ci := 6) (C := "LatticeKeys$Dsa") (TT := T_DA) (N := 17) (kd := (15, 0)) hx hb hts (wg_ft i_DA) hown hK hO k_h0 (nxg hc0 k_h0 rfl) hP (fun _ h9 => h9) rfl 10 (by decide) (hts _ (wg_t kw_175)) (fun _ h9 => h9) (cd := (3, 0, 256)) rfl dDA_multiplyBall_13 (fun v23 hv23 => ?_)
  obtain ⟨r23, rfl, kr23⟩ := (show ∃ r : Nat, v23 = .ref r ∧ T r = some (0, 256) from hv23)
  refine lv_aload_n hx hb dDA_multiplyBall_16 rfl (lv_at hl 0 rfl) ?_
  refine ty_get (ci := 6) (C := "LatticeKeys$Dsa") (TT := T_DA) (N := 17) (kd := (15, 0)) hx hb hts (wg_ft i_DA) hown hK hO k_h0 (nxg hc0 k_h0 rfl) hP (fun _ h9 => h9) rfl 9 (by decide) (hts _ (wg_t kw_174)) (fun _ h9 => h9) (cd := (3, 0, 256)) rfl dDA_multiplyBall_17 (fun v24 hv24 => ?_)
  obtain ⟨r24, rfl, kr24⟩ := (show ∃ r : Nat, v24 = .ref r ∧ T r = some (0, 256) from hv24)
  refine lv_aload_n hx hb dDA_multiplyBall_20 rfl (lv_at hl 1 rfl) ?_
  refine mp_v (cx := []) (wr := []) hP hD hS hA [] [] rfl rfl rfl (by decide) (va_runV (As := [.ref r23, .ref r24, .ref f]) (rest := []) F (t_RG_addProduct_12 l g _ T xs pl hO hU hc0 r22 r23 r24 f kr22 kr23 kr24 k_f) (cwV 3 hts (wg_app (wg_c kw_719 (wg_c kw_654 (wg_c kw_655 (wg_c kw_4 wg_n)))) kw_656) rfl rfl rfl (by decide +kernel) ⟨by decide, by decide⟩) (pp_VT (en_ok g) (ci := 4) (kd := (12, 0)) hK hO kr22 (nxg hc0 kr22 rfl) (fun _ h9 => ko1 h9) hP hD hS hA hE [] rfl rfl rfl) rfl rfl hl.1 rfl (lv_room (Nat.le_of_ble_eq_true rfl)) dDA_multiplyBall_21 ⟨by omega, by omega⟩) (fun  pl H locs hu22 hP hD hS => ?_)
  obtain ⟨hq22, hO⟩ := hu22
  have hP : va_P g.1 vcl ([] ++ pl) _ := hP
  have hD : va_D _ ([] ++ pl) := hD
  refine W.widen (k := 0) (n := 0) (by omega) (by omega) ?_
  refine lv_aload_n hx hb dDA_multiplyBall_24 rfl (lv_at hl 0 rfl) ?_
  refine ty_get (ci := 6) (C := "LatticeKeys$Dsa") (TT := T_DA) (N := 17) (kd := (15, 0)) hx hb hts (wg_ft i_DA) hown hK hO k_h0 (nxg hc0 k_h0 rfl) hP (fun _ h9 => h9) rfl 1 (by decide) (hts _ (wg_t kw_166)) (fun _ h9 => h9) (cd := (3, 12, 0)) rfl dDA_multiplyBall_25 (fun v25 hv25 => ?_)
  obtain ⟨r25, rfl, kr25⟩ := (show ∃ r : Nat, v25 = .ref r ∧ T r = some (12, 0) from hv25)
  refine lv_aload_n hx hb dDA_multiplyBall_28 rfl (lv_at hl 0 rfl) ?_
  refine ty_get (ci := 6) (C := "LatticeKeys$Dsa") (TT := T_DA) (N := 17) (kd := (15, 0)) hx hb hts (wg_ft i_DA) hown hK hO k_h0 (nxg hc0 k_h0 rfl) hP (fun _ h9 => h9) rfl 10 (by decide) (hts _ (wg_t kw_175)) (fun _ h9 => h9) (cd := (3, 0, 256)) rfl dDA_multiplyBall_29 (fun v26 hv26 => ?_)
  obtain ⟨r26, rfl, kr26⟩ := (show ∃ r : Nat, v26 = .ref r ∧ T r = some (0, 256) from hv26)
  refine mp_v (cx := []) (wr := []) hP hD hS hA [] [] rfl rfl rfl (by decide) (va_runV (As := [.ref r26]) (rest := []) F (t_RG_restore_12 l g _ T xs pl hO hU hc0 r25 r26 kr25 kr26) (cwV 1 hts (wg_app (wg_c kw_720 (wg_c kw_721 (wg_c kw_722 (wg_c kw_4 wg_n)))) kw_723) rfl rfl rfl (by decide +kernel) ⟨by decide, by decide⟩) (pp_VT (en_ok g) (ci := 4) (kd := (12, 0)) hK hO kr25 (nxg hc0 kr25 rfl) (fun _ h9 => ko1 h9) hP hD hS hA hE [] rfl rfl rfl) rfl rfl hl.1 rfl (lv_room (Nat.le_of_ble_eq_true rfl)) dDA_multiplyBall_32 ⟨by omega, by omega⟩) (fun  pl H locs hu23 hP hD hS => ?_)
  obtain ⟨hq23, hO⟩ := hu23
  have hP : va_P g.1 vcl ([] ++ pl) _ := hP
  have hD : va_D _ ([] ++ pl) := hD
  refine W.widen (k := 0) (n := 0) (by omega) (by omega) ?_
  exact mp_vret hx hb hr hlk hP hD hS pl ⟨trivial, hO⟩ [] rfl rfl rfl (by omega) (by omega) dDA_multiplyBall_35
set_option maxHeartbeats 400000 in
set_option maxRecDepth 100000 in
theorem t_DA_multiplyRow_0 (l : Launch) (g : Gd) (sz : Nat) (T : Ty) (xs : List Nat) (pl : va_W) (hO : okx g T xs pl) (hU : uni T) (hc0 : clo T xs 0) (h0 st vc rw : Nat) (k_h0 : T h0 = some (15, 0)) (k_st : T st = some (43, 0)) (k_vc : T vc = some (3, 7)) (h1 : rw < 4)  : Met l y_DA_multiplyRow w_DA_multiplyRow ({ frames := 1, cells := 0, slots := 0, locals := 25 } : Room) (va_Pc [.ref h0, .ref st, .int (nI rw), .ref vc] (pr (en g) g.1 vcl sz ([] ++ pl))) (va_Qv (fun (u : va_W) => (True) ∧ okx g T xs u) (po g.1 vcl (va_A ([] ++ pl) sz) (fun (u : va_W) => [] ++ u)) (va_A ([] ++ pl) sz)) 0 0 (va_A ([] ++ pl) sz) := by
  refine mc_entry (cc := c_DA_multiplyRow) (maxL := 5) (ret := none) (by decide) rfl (Nat.le_of_ble_eq_true rfl) ?_
  intro p e s m args below meth c ls F hr hlk hnm hsz hP hD hE hA hl
  obtain ⟨hx, hb, hml, hown, hts⟩ := id F
  have hK := hE.1
  generalize va_A ([] ++ pl) sz = A at hD hE hA ⊢
  have hS : va_S A s.heap s.heap [] := va_S.rf
  have hl : lv_has ls 5 [(0, .ref h0), (1, .ref st), (2, .int (nI rw)), (3, .ref vc)] := hl
  refine lv_aload_n hx hb dDA_multiplyRow_0 rfl (lv_at hl 0 rfl) ?_
  refine ty_get (ci := 6) (C := "LatticeKeys$Dsa") (TT := T_DA) (N := 17) (kd := (15, 0)) hx hb hts (wg_ft i_DA) hown hK hO k_h0 (nxg hc0 k_h0 rfl) hP (fun _ h9 => h9) rfl 8 (by decide) (hts _ (wg_t kw_173)) (fun _ h9 => h9) (cd := (3, 3, 8)) rfl dDA_multiplyRow_1 (fun v21 hv21 => ?_)
  obtain ⟨r21, rfl, kr21⟩ := (show ∃ r : Nat, v21 = .ref r ∧ T r = some (3, 8) from hv21)
  refine lv_iload_n hx hb dDA_multiplyRow_4 rfl (lv_at hl 2 rfl) ?_
  refine ty_aald3 hx hb hK hO kr21 (nxg hc0 kr21 rfl) hP (by omega) (by decide) dDA_multiplyRow_5 (fun r22 kr22 => ?_)
  refine lv_iconst (v := nI 0) hx hb dDA_multiplyRow_6 (by decide) ?_
  refine mp_v (cx := []) (wr := []) hP hD hS hA [] [] rfl rfl rfl (by decide) (va_runS (As := [.ref r22, .int (nI 0)]) (rest := []) F (t_fillI l g _ T xs pl hO hU hc0 r22 256 (nI 0) kr22 (by omega)) (va_cwS 2 hts (wg_app (wg_c kw_716 (wg_c kw_717 (wg_c kw_21 wg_n))) kw_718) rfl rfl rfl (by decide +kernel) ⟨by decide, by decide⟩) (pp_S (en_ok g) hP hD hS hA hE [] rfl rfl) rfl rfl hl.1 rfl (lv_room (Nat.le_of_ble_eq_true rfl)) dDA_multiplyRow_7 ⟨by omega, by omega⟩) (fun  pl H locs hu21 hP hD hS => ?_)
  obtain ⟨hq21, hO⟩ := hu21
  have hP : va_P g.1 vcl ([] ++ pl) _ := hP
  have hD : va_D _ ([] ++ pl) := hD
  refine W.widen (k := 0) (n := 0) (by omega) (by omega) ?_
  refine lv_iconst (v := nI 0) hx hb dDA_multiplyRow_10 (by decide) ?_
  refine lv_istore (lv' := [(4, .int (nI 0)), (0, .ref h0), (1, .ref st), (2, .int (nI rw)), (3, .ref vc)]) hx hb dDA_multiplyRow_11 hl (by decide) rfl (fun ls hl => ?_)
  have lp21 : ∀ (n21 : Nat) (i21 : Nat) (pl : va_W) (ls : Array Slot) (H : Heap) (locs : List Loc), n21 + i21 = 4 → lv_has ls 5 [(4, .int (nI i21)), (0, .ref h0), (1, .ref st), (2, .int (nI rw)), (3, .ref vc)] → okx g T xs pl → va_P g.1 vcl ([] ++ pl) H → va_D A ([] ++ pl) → va_S A s.heap H locs → W p l e ({ frames := 1, cells := 0, slots := 0, locals := 25 } : Room) s m args below meth c H locs 0 0 (MQ below (va_Qv (fun (u : va_W) => (True) ∧ okx g T xs u) (po g.1 vcl A (fun (u : va_W) => [] ++ u)) A) args s 0 0 A) (F0 m 13 ls []) := by
    intro n21
    induction n21 with
    | zero =>
      intro i21 pl ls H locs hm21  hl hO hP hD hS
      refine lv_iload hx hb dDA_multiplyRow_13 (lv_at hl 0 rfl) ?_
      refine lv_aload_n hx hb dDA_multiplyRow_15 rfl (lv_at hl 2 rfl) ?_
      refine ty_get (ci := 2) (C := "LatticeKeys$DsaSet") (TT := T_DS) (N := 17) (kd := (43, 0)) hx hb hts (wg_ft i_DS) hown hK hO k_st (nxg hc0 k_st rfl) hP (fun _ h9 => h9) rfl 1 (by decide) (hts _ (wg_t kw_305)) (fun _ h9 => h9) (cd := (1, 0, 4)) rfl dDA_multiplyRow_16 (fun v22 hv22 => ?_)
      obtain rfl := (show v22 = .int (nI 4) from hv22)
      refine mi_ge (tgt := 59) hx hb dDA_multiplyRow_19 (by decide) (by omega) (by omega) (fun h21 => ?_) (fun h21 => absurd h21 (by omega))
      exact mp_vret hx hb hr hlk hP hD hS pl ⟨trivial, hO⟩ [] rfl rfl rfl (by omega) (by omega) dDA_multiplyRow_59
    | succ n21 ih21 =>
      intro i21 pl ls H locs hm21  hl hO hP hD hS
      refine lv_iload hx hb dDA_multiplyRow_13 (lv_at hl 0 rfl) ?_
      refine lv_aload_n hx hb dDA_multiplyRow_15 rfl (lv_at hl 2 rfl) ?_
      refine ty_get (ci := 2) (C := "LatticeKeys$DsaSet") (TT := T_DS) (N := 17) (kd := (43, 0)) hx hb hts (wg_ft i_DS) hown hK hO k_st (nxg hc0 k_st rfl) hP (fun _ h9 => h9) rfl 1 (by decide) (hts _ (wg_t kw_305)) (fun _ h9 => h9) (cd := (1, 0, 4)) rfl dDA_multiplyRow_16 (fun v23 hv23 => ?_)
      obtain rfl := (show v23 = .int (nI 4) from hv23)
      refine mi_ge (tgt := 59) hx hb dDA_multiplyRow_19 (by decide) (by omega) (by omega) (fun h22 => absurd h22 (by omega)) (fun h22 => ?_)
      refine lv_aload_n hx hb dDA_multiplyRow_22 rfl (lv_at hl 1 rfl) ?_
      refine ty_get (ci := 6) (C := "LatticeKeys$Dsa") (TT := T_DA) (N := 17) (kd := (15, 0)) hx hb hts (wg_ft i_DA) hown hK hO k_h0 (nxg hc0 k_h0 rfl) hP (fun _ h9 => h9) rfl 1 (by decide) (hts _ (wg_t kw_166)) (fun _ h9 => h9) (cd := (3, 12, 0)) rfl dDA_multiplyRow_23 (fun v24 hv24 => ?_)
      obtain ⟨r23, rfl, kr23⟩ := (show ∃ r : Nat, v24 = .ref r ∧ T r = some (12, 0) from hv24)
      refine lv_aload_n hx hb dDA_multiplyRow_26 rfl (lv_at hl 1 rfl) ?_
      refine ty_get (ci := 6) (C := "LatticeKeys$Dsa") (TT := T_DA) (N := 17) (kd := (15, 0)) hx hb hts (wg_ft i_DA) hown hK hO k_h0 (nxg hc0 k_h0 rfl) hP (fun _ h9 => h9) rfl 8 (by decide) (hts _ (wg_t kw_173)) (fun _ h9 => h9) (cd := (3, 3, 8)) rfl dDA_multiplyRow_27 (fun v25 hv25 => ?_)
      obtain ⟨r24, rfl, kr24⟩ := (show ∃ r : Nat, v25 = .ref r ∧ T r = some (3, 8) from hv25)
      refine lv_iload_n hx hb dDA_multiplyRow_30 rfl (lv_at hl 3 rfl) ?_
      refine ty_aald3 hx hb hK hO kr24 (nxg hc0 kr24 rfl) hP (by omega) (by decide) dDA_multiplyRow_31 (fun r25 kr25 => ?_)
      refine lv_aload_n hx hb dDA_multiplyRow_32 rfl (lv_at hl 1 rfl) ?_
      refine ty_get (ci := 6) (C := "LatticeKeys$Dsa") (TT := T_DA) (N := 17) (kd := (15, 0)) hx hb hts (wg_ft i_DA) hown hK hO k_h0 (nxg hc0 k_h0 rfl) hP (fun _ h9 => h9) rfl 3 (by decide) (hts _ (wg_t kw_168)) (fun _ h9 => h9) (cd := (3, 3, 56)) rfl dDA_multiplyRow_33 (fun v26 hv26 => ?_)
      obtain ⟨r26, rfl, kr26⟩ := (show ∃ r : Nat, v26 = .ref r ∧ T r = some (3, 56) from hv26)
      refine lv_aload_n hx hb dDA_multiplyRow_36 rfl (lv_at hl 2 rfl) ?_
      refine ty_get (ci := 2) (C := "LatticeKeys$DsaSet") (TT := T_DS) (N := 17) (kd := (43, 0)) hx hb hts (wg_ft i_DS) hown hK hO k_st (nxg hc0 k_st rfl) hP (fun _ h9 => h9) rfl 1 (by decide) (hts _ (wg_t kw_305)) (fun _ h9 => h9) (cd := (1, 0, 4)) rfl dDA_multiplyRow_37 (fun v27 hv27 => ?_)
      obtain rfl := (show v27 = .int (nI 4) from hv27)
      refine lv_iload_n hx hb dDA_multiplyRow_40 rfl (lv_at hl 3 rfl) ?_
      refine mi_imul hx hb dDA_multiplyRow_41 ?_
      refine lv_iload hx hb dDA_multiplyRow_42 (lv_at hl 0 rfl) ?_
      refine mi_iadd hx hb dDA_multiplyRow_44 ?_
      refine ty_aald3 hx hb hK hO kr26 (nxg hc0 kr26 rfl) hP (by omega) (by decide) dDA_multiplyRow_45 (fun r27 kr27 => ?_)
      refine lv_aload_n hx hb dDA_multiplyRow_46 rfl (lv_at hl 4 rfl) ?_
      refine lv_iload hx hb dDA_multiplyRow_47 (lv_at hl 0 rfl) ?_
      refine ty_aald3 hx hb hK hO k_vc (nxg hc0 k_vc rfl) hP (by omega) (by decide) dDA_multiplyRow_49 (fun r28 kr28 => ?_)
      refine mp_v (cx := []) (wr := []) hP hD hS hA [] [] rfl rfl rfl (by decide) (va_runV (As := [.ref r25, .ref r27, .ref r28]) (rest := []) F (t_RG_addProduct_12 l g _ T xs pl hO hU hc0 r23 r25 r27 r28 kr23 kr25 kr27 kr28) (cwV 3 hts (wg_app (wg_c kw_719 (wg_c kw_654 (wg_c kw_655 (wg_c kw_4 wg_n)))) kw_656) rfl rfl rfl (by decide +kernel) ⟨by decide, by decide⟩) (pp_VT (en_ok g) (ci := 4) (kd := (12, 0)) hK hO kr23 (nxg hc0 kr23 rfl) (fun _ h9 => ko1 h9) hP hD hS hA hE [] rfl rfl rfl) rfl rfl hl.1 rfl (lv_room (Nat.le_of_ble_eq_true rfl)) dDA_multiplyRow_50 ⟨by omega, by omega⟩) (fun  pl H locs hu22 hP hD hS => ?_)
      obtain ⟨hq22, hO⟩ := hu22
      have hP : va_P g.1 vcl ([] ++ pl) _ := hP
      have hD : va_D _ ([] ++ pl) := hD
      refine W.widen (k := 0) (n := 0) (by omega) (by omega) ?_
      refine mi_iinc (k := 0) (x := i21) (d := 1) (y := i21 + 1) (lv' := [(4, .int (nI (i21 + 1))), (0, .ref h0), (1, .ref st), (2, .int (nI rw)), (3, .ref vc)]) hx hb dDA_multiplyRow_53 hl rfl (by decide) rfl (by decide) rfl (fun ls hl => ?_)
      refine lv_goto (tgt := 13) hx hb dDA_multiplyRow_56 (by decide) ?_
      exact ih21 (i21 + 1) pl ls H locs (by omega) (lv_sub hl [0, 1, 2, 3, 4] rfl) hO hP hD hS
  exact lp21 4 0 pl ls _ _ (by omega) (lv_sub hl [0, 1, 2, 3, 4] rfl) hO hP hD hS
set_option maxHeartbeats 400000 in
set_option maxRecDepth 100000 in
theorem t_DA_multiplyRow_1 (l : Launch) (g : Gd) (sz : Nat) (T : Ty) (xs : List Nat) (pl : va_W) (hO : okx g T xs pl) (hU : uni T) (hc0 : clo T xs 0) (h0 st vc rw : Nat) (k_h0 : T h0 = some (15, 0)) (k_st : T st = some (44, 0)) (k_vc : T vc = some (3, 7)) (h1 : rw < 6)  : Met l y_DA_multiplyRow w_DA_multiplyRow ({ frames := 1, cells := 0, slots := 0, locals := 25 } : Room) (va_Pc [.ref h0, .ref st, .int (nI rw), .ref vc] (pr (en g) g.1 vcl sz ([] ++ pl))) (va_Qv (fun (u : va_W) => (True) ∧ okx g T xs u) (po g.1 vcl (va_A ([] ++ pl) sz) (fun (u : va_W) => [] ++ u)) (va_A ([] ++ pl) sz)) 0 0 (va_A ([] ++ pl) sz) := by
  refine mc_entry (cc := c_DA_multiplyRow) (maxL := 5) (ret := none) (by decide) rfl (Nat.le_of_ble_eq_true rfl) ?_
  intro p e s m args below meth c ls F hr hlk hnm hsz hP hD hE hA hl
  obtain ⟨hx, hb, hml, hown, hts⟩ := id F
  have hK := hE.1
  generalize va_A ([] ++ pl) sz = A at hD hE hA ⊢
  have hS : va_S A s.heap s.heap [] := va_S.rf
  have hl : lv_has ls 5 [(0, .ref h0), (1, .ref st), (2, .int (nI rw)), (3, .ref vc)] := hl
  refine lv_aload_n hx hb dDA_multiplyRow_0 rfl (lv_at hl 0 rfl) ?_
  refine ty_get (ci := 6) (C := "LatticeKeys$Dsa") (TT := T_DA) (N := 17) (kd := (15, 0)) hx hb hts (wg_ft i_DA) hown hK hO k_h0 (nxg hc0 k_h0 rfl) hP (fun _ h9 => h9) rfl 8 (by decide) (hts _ (wg_t kw_173)) (fun _ h9 => h9) (cd := (3, 3, 8)) rfl dDA_multiplyRow_1 (fun v21 hv21 => ?_)
  obtain ⟨r21, rfl, kr21⟩ := (show ∃ r : Nat, v21 = .ref r ∧ T r = some (3, 8) from hv21)
  refine lv_iload_n hx hb dDA_multiplyRow_4 rfl (lv_at hl 2 rfl) ?_
  refine ty_aald3 hx hb hK hO kr21 (nxg hc0 kr21 rfl) hP (by omega) (by decide) dDA_multiplyRow_5 (fun r22 kr22 => ?_)
  refine lv_iconst (v := nI 0) hx hb dDA_multiplyRow_6 (by decide) ?_
  refine mp_v (cx := []) (wr := []) hP hD hS hA [] [] rfl rfl rfl (by decide) (va_runS (As := [.ref r22, .int (nI 0)]) (rest := []) F (t_fillI l g _ T xs pl hO hU hc0 r22 256 (nI 0) kr22 (by omega)) (va_cwS 2 hts (wg_app (wg_c kw_716 (wg_c kw_717 (wg_c kw_21 wg_n))) kw_718) rfl rfl rfl (by decide +kernel) ⟨by decide, by decide⟩) (pp_S (en_ok g) hP hD hS hA hE [] rfl rfl) rfl rfl hl.1 rfl (lv_room (Nat.le_of_ble_eq_true rfl)) dDA_multiplyRow_7 ⟨by omega, by omega⟩) (fun  pl H locs hu21 hP hD hS => ?_)
  obtain ⟨hq21, hO⟩ := hu21
  have hP : va_P g.1 vcl ([] ++ pl) _ := hP
  have hD : va_D _ ([] ++ pl) := hD
  refine W.widen (k := 0) (n := 0) (by omega) (by omega) ?_
  refine lv_iconst (v := nI 0) hx hb dDA_multiplyRow_10 (by decide) ?_
  refine lv_istore (lv' := [(4, .int (nI 0)), (0, .ref h0), (1, .ref st), (2, .int (nI rw)), (3, .ref vc)]) hx hb dDA_multiplyRow_11 hl (by decide) rfl (fun ls hl => ?_)
  have lp21 : ∀ (n21 : Nat) (i21 : Nat) (pl : va_W) (ls : Array Slot) (H : Heap) (locs : List Loc), n21 + i21 = 5 → lv_has ls 5 [(4, .int (nI i21)), (0, .ref h0), (1, .ref st), (2, .int (nI rw)), (3, .ref vc)] → okx g T xs pl → va_P g.1 vcl ([] ++ pl) H → va_D A ([] ++ pl) → va_S A s.heap H locs → W p l e ({ frames := 1, cells := 0, slots := 0, locals := 25 } : Room) s m args below meth c H locs 0 0 (MQ below (va_Qv (fun (u : va_W) => (True) ∧ okx g T xs u) (po g.1 vcl A (fun (u : va_W) => [] ++ u)) A) args s 0 0 A) (F0 m 13 ls []) := by
    intro n21
    induction n21 with
    | zero =>
      intro i21 pl ls H locs hm21  hl hO hP hD hS
      refine lv_iload hx hb dDA_multiplyRow_13 (lv_at hl 0 rfl) ?_
      refine lv_aload_n hx hb dDA_multiplyRow_15 rfl (lv_at hl 2 rfl) ?_
      refine ty_get (ci := 2) (C := "LatticeKeys$DsaSet") (TT := T_DS) (N := 17) (kd := (44, 0)) hx hb hts (wg_ft i_DS) hown hK hO k_st (nxg hc0 k_st rfl) hP (fun _ h9 => h9) rfl 1 (by decide) (hts _ (wg_t kw_305)) (fun _ h9 => h9) (cd := (1, 0, 5)) rfl dDA_multiplyRow_16 (fun v22 hv22 => ?_)
      obtain rfl := (show v22 = .int (nI 5) from hv22)
      refine mi_ge (tgt := 59) hx hb dDA_multiplyRow_19 (by decide) (by omega) (by omega) (fun h21 => ?_) (fun h21 => absurd h21 (by omega))
      exact mp_vret hx hb hr hlk hP hD hS pl ⟨trivial, hO⟩ [] rfl rfl rfl (by omega) (by omega) dDA_multiplyRow_59
    | succ n21 ih21 =>
      intro i21 pl ls H locs hm21  hl hO hP hD hS
      refine lv_iload hx hb dDA_multiplyRow_13 (lv_at hl 0 rfl) ?_
      refine lv_aload_n hx hb dDA_multiplyRow_15 rfl (lv_at hl 2 rfl) ?_
      refine ty_get (ci := 2) (C := "LatticeKeys$DsaSet") (TT := T_DS) (N := 17) (kd := (44, 0)) hx hb hts (wg_ft i_DS) hown hK hO k_st (nxg hc0 k_st rfl) hP (fun _ h9 => h9) rfl 1 (by decide) (hts _ (wg_t kw_305)) (fun _ h9 => h9) (cd := (1, 0, 5)) rfl dDA_multiplyRow_16 (fun v23 hv23 => ?_)
      obtain rfl := (show v23 = .int (nI 5) from hv23)
      refine mi_ge (tgt := 59) hx hb dDA_multiplyRow_19 (by decide) (by omega) (by omega) (fun h22 => absurd h22 (by omega)) (fun h22 => ?_)
      refine lv_aload_n hx hb dDA_multiplyRow_22 rfl (lv_at hl 1 rfl) ?_
      refine ty_get (ci := 6) (C := "LatticeKeys$Dsa") (TT := T_DA) (N := 17) (kd := (15, 0)) hx hb hts (wg_ft i_DA) hown hK hO k_h0 (nxg hc0 k_h0 rfl) hP (fun _ h9 => h9) rfl 1 (by decide) (hts _ (wg_t kw_166)) (fun _ h9 => h9) (cd := (3, 12, 0)) rfl dDA_multiplyRow_23 (fun v24 hv24 => ?_)
      obtain ⟨r23, rfl, kr23⟩ := (show ∃ r : Nat, v24 = .ref r ∧ T r = some (12, 0) from hv24)
      refine lv_aload_n hx hb dDA_multiplyRow_26 rfl (lv_at hl 1 rfl) ?_
      refine ty_get (ci := 6) (C := "LatticeKeys$Dsa") (TT := T_DA) (N := 17) (kd := (15, 0)) hx hb hts (wg_ft i_DA) hown hK hO k_h0 (nxg hc0 k_h0 rfl) hP (fun _ h9 => h9) rfl 8 (by decide) (hts _ (wg_t kw_173)) (fun _ h9 => h9) (cd := (3, 3, 8)) rfl dDA_multiplyRow_27 (fun v25 hv25 => ?_)
      obtain ⟨r24, rfl, kr24⟩ := (show ∃ r : Nat, v25 = .ref r ∧ T r = some (3, 8) from hv25)
      refine lv_iload_n hx hb dDA_multiplyRow_30 rfl (lv_at hl 3 rfl) ?_
      refine ty_aald3 hx hb hK hO kr24 (nxg hc0 kr24 rfl) hP (by omega) (by decide) dDA_multiplyRow_31 (fun r25 kr25 => ?_)
      refine lv_aload_n hx hb dDA_multiplyRow_32 rfl (lv_at hl 1 rfl) ?_
      refine ty_get (ci := 6) (C := "LatticeKeys$Dsa") (TT := T_DA) (N := 17) (kd := (15, 0)) hx hb hts (wg_ft i_DA) hown hK hO k_h0 (nxg hc0 k_h0 rfl) hP (fun _ h9 => h9) rfl 3 (by decide) (hts _ (wg_t kw_168)) (fun _ h9 => h9) (cd := (3, 3, 56)) rfl dDA_multiplyRow_33 (fun v26 hv26 => ?_)
      obtain ⟨r26, rfl, kr26⟩ := (show ∃ r : Nat, v26 = .ref r ∧ T r = some (3, 56) from hv26)
      refine lv_aload_n hx hb dDA_multiplyRow_36 rfl (lv_at hl 2 rfl) ?_
      refine ty_get (ci := 2) (C := "LatticeKeys$DsaSet") (TT := T_DS) (N := 17) (kd := (44, 0)) hx hb hts (wg_ft i_DS) hown hK hO k_st (nxg hc0 k_st rfl) hP (fun _ h9 => h9) rfl 1 (by decide) (hts _ (wg_t kw_305)) (fun _ h9 => h9) (cd := (1, 0, 5)) rfl dDA_multiplyRow_37 (fun v27 hv27 => ?_)
      obtain rfl := (show v27 = .int (nI 5) from hv27)
      refine lv_iload_n hx hb dDA_multiplyRow_40 rfl (lv_at hl 3 rfl) ?_
      refine mi_imul hx hb dDA_multiplyRow_41 ?_
      refine lv_iload hx hb dDA_multiplyRow_42 (lv_at hl 0 rfl) ?_
      refine mi_iadd hx hb dDA_multiplyRow_44 ?_
      refine ty_aald3 hx hb hK hO kr26 (nxg hc0 kr26 rfl) hP (by omega) (by decide) dDA_multiplyRow_45 (fun r27 kr27 => ?_)
      refine lv_aload_n hx hb dDA_multiplyRow_46 rfl (lv_at hl 4 rfl) ?_
      refine lv_iload hx hb dDA_multiplyRow_47 (lv_at hl 0 rfl) ?_
      refine ty_aald3 hx hb hK hO k_vc (nxg hc0 k_vc rfl) hP (by omega) (by decide) dDA_multiplyRow_49 (fun r28 kr28 => ?_)
      refine mp_v (cx := []) (wr := []) hP hD hS hA [] [] rfl rfl rfl (by decide) (va_runV (As := [.ref r25, .ref r27, .ref r28]) (rest := []) F (t_RG_addProduct_12 l g _ T xs pl hO hU hc0 r23 r25 r27 r28 kr23 kr25 kr27 kr28) (cwV 3 hts (wg_app (wg_c kw_719 (wg_c kw_654 (wg_c kw_655 (wg_c kw_4 wg_n)))) kw_656) rfl rfl rfl (by decide +kernel) ⟨by decide, by decide⟩) (pp_VT (en_ok g) (ci := 4) (kd := (12, 0)) hK hO kr23 (nxg hc0 kr23 rfl) (fun _ h9 => ko1 h9) hP hD hS hA hE [] rfl rfl rfl) rfl rfl hl.1 rfl (lv_room (Nat.le_of_ble_eq_true rfl)) dDA_multiplyRow_50 ⟨by omega, by omega⟩) (fun  pl H locs hu22 hP hD hS => ?_)
      obtain ⟨hq22, hO⟩ := hu22
      have hP : va_P g.1 vcl ([] ++ pl) _ := hP
      have hD : va_D _ ([] ++ pl) := hD
      refine W.widen (k := 0) (n := 0) (by omega) (by omega) ?_
      refine mi_iinc (k := 0) (x := i21) (d := 1) (y := i21 + 1) (lv' := [(4, .int (nI (i21 + 1))), (0, .ref h0), (1, .ref st), (2, .int (nI rw)), (3, .ref vc)]) hx hb dDA_multiplyRow_53 hl rfl (by decide) rfl (by decide) rfl (fun ls hl => ?_)
      refine lv_goto (tgt := 13) hx hb dDA_multiplyRow_56 (by decide) ?_
      exact ih21 (i21 + 1) pl ls H locs (by omega) (lv_sub hl [0, 1, 2, 3, 4] rfl) hO hP hD hS
  exact lp21 5 0 pl ls _ _ (by omega) (lv_sub hl [0, 1, 2, 3, 4] rfl) hO hP hD hS
set_option maxHeartbeats 400000 in
set_option maxRecDepth 100000 in
theorem t_DA_multiplyRow_2 (l : Launch) (g : Gd) (sz : Nat) (T : Ty) (xs : List Nat) (pl : va_W) (hO : okx g T xs pl) (hU : uni T) (hc0 : clo T xs 0) (h0 st vc rw : Nat) (k_h0 : T h0 = some (15, 0)) (k_st : T st = some (45, 0)) (k_vc : T vc = some (3, 7)) (h1 : rw < 8)  : Met l y_DA_multiplyRow w_DA_multiplyRow ({ frames := 1, cells := 0, slots := 0, locals := 25 } : Room) (va_Pc [.ref h0, .ref st, .int (nI rw), .ref vc] (pr (en g) g.1 vcl sz ([] ++ pl))) (va_Qv (fun (u : va_W) => (True) ∧ okx g T xs u) (po g.1 vcl (va_A ([] ++ pl) sz) (fun (u : va_W) => [] ++ u)) (va_A ([] ++ pl) sz)) 0 0 (va_A ([] ++ pl) sz) := by
  refine mc_entry (cc := c_DA_multiplyRow) (maxL := 5) (ret := none) (by decide) rfl (Nat.le_of_ble_eq_true rfl) ?_
  intro p e s m args below meth c ls F hr hlk hnm hsz hP hD hE hA hl
  obtain ⟨hx, hb, hml, hown, hts⟩ := id F
  have hK := hE.1
  generalize va_A ([] ++ pl) sz = A at hD hE hA ⊢
  have hS : va_S A s.heap s.heap [] := va_S.rf
  have hl : lv_has ls 5 [(0, .ref h0), (1, .ref st), (2, .int (nI rw)), (3, .ref vc)] := hl
  refine lv_aload_n hx hb dDA_multiplyRow_0 rfl (lv_at hl 0 rfl) ?_
  refine ty_get (ci := 6) (C := "LatticeKeys$Dsa") (TT := T_DA) (N := 17) (kd := (15, 0)) hx hb hts (wg_ft i_DA) hown hK hO k_h0 (nxg hc0 k_h0 rfl) hP (fun _ h9 => h9) rfl 8 (by decide) (hts _ (wg_t kw_173)) (fun _ h9 => h9) (cd := (3, 3, 8)) rfl dDA_multiplyRow_1 (fun v21 hv21 => ?_)
  obtain ⟨r21, rfl, kr21⟩ := (show ∃ r : Nat, v21 = .ref r ∧ T r = some (3, 8) from hv21)
  refine lv_iload_n hx hb dDA_multiplyRow_4 rfl (lv_at hl 2 rfl) ?_
  refine ty_aald3 hx hb hK hO kr21 (nxg hc0 kr21 rfl) hP (by omega) (by decide) dDA_multiplyRow_5 (fun r22 kr22 => ?_)
  refine lv_iconst (v := nI 0) hx hb dDA_multiplyRow_6 (by decide) ?_
  refine mp_v (cx := []) (wr := []) hP hD hS hA [] [] rfl rfl rfl (by decide) (va_runS (As := [.ref r22, .int (nI 0)]) (rest := []) F (t_fillI l g _ T xs pl hO hU hc0 r22 256 (nI 0) kr22 (by omega)) (va_cwS 2 hts (wg_app (wg_c kw_716 (wg_c kw_717 (wg_c kw_21 wg_n))) kw_718) rfl rfl rfl (by decide +kernel) ⟨by decide, by decide⟩) (pp_S (en_ok g) hP hD hS hA hE [] rfl rfl) rfl rfl hl.1 rfl (lv_room (Nat.le_of_ble_eq_true rfl)) dDA_multiplyRow_7 ⟨by omega, by omega⟩) (fun  pl H locs hu21 hP hD hS => ?_)
  obtain ⟨hq21, hO⟩ := hu21
  have hP : va_P g.1 vcl ([] ++ pl) _ := hP
  have hD : va_D _ ([] ++ pl) := hD
  refine W.widen (k := 0) (n := 0) (by omega) (by omega) ?_
  refine lv_iconst (v := nI 0) hx hb dDA_multiplyRow_10 (by decide) ?_
  refine lv_istore (lv' := [(4, .int (nI 0)), (0, .ref h0), (1, .ref st), (2, .int (nI rw)), (3, .ref vc)]) hx hb dDA_multiplyRow_11 hl (by decide) rfl (fun ls hl => ?_)
  have lp21 : ∀ (n21 : Nat) (i21 : Nat) (pl : va_W) (ls : Array Slot) (H : Heap) (locs : List Loc), n21 + i21 = 7 → lv_has ls 5 [(4, .int (nI i21)), (0, .ref h0), (1, .ref st), (2, .int (nI rw)), (3, .ref vc)] → okx g T xs pl → va_P g.1 vcl ([] ++ pl) H → va_D A ([] ++ pl) → va_S A s.heap H locs → W p l e ({ frames := 1, cells := 0, slots := 0, locals := 25 } : Room) s m args below meth c H locs 0 0 (MQ below (va_Qv (fun (u : va_W) => (True) ∧ okx g T xs u) (po g.1 vcl A (fun (u : va_W) => [] ++ u)) A) args s 0 0 A) (F0 m 13 ls []) := by
    intro n21
    induction n21 with
    | zero =>
      intro i21 pl ls H locs hm21  hl hO hP hD hS
      refine lv_iload hx hb dDA_multiplyRow_13 (lv_at hl 0 rfl) ?_
      refine lv_aload_n hx hb dDA_multiplyRow_15 rfl (lv_at hl 2 rfl) ?_
      refine ty_get (ci := 2) (C := "LatticeKeys$DsaSet") (TT := T_DS) (N := 17) (kd := (45, 0)) hx hb hts (wg_ft i_DS) hown hK hO k_st (nxg hc0 k_st rfl) hP (fun _ h9 => h9) rfl 1 (by decide) (hts _ (wg_t kw_305)) (fun _ h9 => h9) (cd := (1, 0, 7)) rfl dDA_multiplyRow_16 (fun v22 hv22 => ?_)
      obtain rfl := (show v22 = .int (nI 7) from hv22)
      refine mi_ge (tgt := 59) hx hb dDA_multiplyRow_19 (by decide) (by omega) (by omega) (fun h21 => ?_) (fun h21 => absurd h21 (by omega))
      exact mp_vret hx hb hr hlk hP hD hS pl ⟨trivial, hO⟩ [] rfl rfl rfl (by omega) (by omega) dDA_multiplyRow_59
    | succ n21 ih21 =>
      intro i21 pl ls H locs hm21  hl hO hP hD hS
      refine lv_iload hx hb dDA_multiplyRow_13 (lv_at hl 0 rfl) ?_
      refine lv_aload_n hx hb dDA_multiplyRow_15 rfl (lv_at hl 2 rfl) ?_
      refine ty_get (ci := 2) (C := "LatticeKeys$DsaSet") (TT := T_DS) (N := 17) (kd := (45, 0)) hx hb hts (wg_ft i_DS) hown hK hO k_st (nxg hc0 k_st rfl) hP (fun _ h9 => h9) rfl 1 (by decide) (hts _ (wg_t kw_305)) (fun _ h9 => h9) (cd := (1, 0, 7)) rfl dDA_multiplyRow_16 (fun v23 hv23 => ?_)
      obtain rfl := (show v23 = .int (nI 7) from hv23)
      refine mi_ge (tgt := 59) hx hb dDA_multiplyRow_19 (by decide) (by omega) (by omega) (fun h22 => absurd h22 (by omega)) (fun h22 => ?_)
      refine lv_aload_n hx hb dDA_multiplyRow_22 rfl (lv_at hl 1 rfl) ?_
      refine ty_get (ci := 6) (C := "LatticeKeys$Dsa") (TT := T_DA) (N := 17) (kd := (15, 0)) hx hb hts (wg_ft i_DA) hown hK hO k_h0 (nxg hc0 k_h0 rfl) hP (fun _ h9 => h9) rfl 1 (by decide) (hts _ (wg_t kw_166)) (fun _ h9 => h9) (cd := (3, 12, 0)) rfl dDA_multiplyRow_23 (fun v24 hv24 => ?_)
      obtain ⟨r23, rfl, kr23⟩ := (show ∃ r : Nat, v24 = .ref r ∧ T r = some (12, 0) from hv24)
      refine lv_aload_n hx hb dDA_multiplyRow_26 rfl (lv_at hl 1 rfl) ?_
      refine ty_get (ci := 6) (C := "LatticeKeys$Dsa") (TT := T_DA) (N := 17) (kd := (15, 0)) hx hb hts (wg_ft i_DA) hown hK hO k_h0 (nxg hc0 k_h0 rfl) hP (fun _ h9 => h9) rfl 8 (by decide) (hts _ (wg_t kw_173)) (fun _ h9 => h9) (cd := (3, 3, 8)) rfl dDA_multiplyRow_27 (fun v25 hv25 => ?_)
      obtain ⟨r24, rfl, kr24⟩ := (show ∃ r : Nat, v25 = .ref r ∧ T r = some (3, 8) from hv25)
      refine lv_iload_n hx hb dDA_multiplyRow_30 rfl (lv_at hl 3 rfl) ?_
      refine ty_aald3 hx hb hK hO kr24 (nxg hc0 kr24 rfl) hP (by omega) (by decide) dDA_multiplyRow_31 (fun r25 kr25 => ?_)
      refine lv_aload_n hx hb dDA_multiplyRow_32 rfl (lv_at hl 1 rfl) ?_
      refine ty_get (ci := 6) (C := "LatticeKeys$Dsa") (TT := T_DA) (N := 17) (kd := (15, 0)) hx hb hts (wg_ft i_DA) hown hK hO k_h0 (nxg hc0 k_h0 rfl) hP (fun _ h9 => h9) rfl 3 (by decide) (hts _ (wg_t kw_168)) (fun _ h9 => h9) (cd := (3, 3, 56)) rfl dDA_multiplyRow_33 (fun v26 hv26 => ?_)
      obtain ⟨r26, rfl, kr26⟩ := (show ∃ r : Nat, v26 = .ref r ∧ T r = some (3, 56) from hv26)
      refine lv_aload_n hx hb dDA_multiplyRow_36 rfl (lv_at hl 2 rfl) ?_
      refine ty_get (ci := 2) (C := "LatticeKeys$DsaSet") (TT := T_DS) (N := 17) (kd := (45, 0)) hx hb hts (wg_ft i_DS) hown hK hO k_st (nxg hc0 k_st rfl) hP (fun _ h9 => h9) rfl 1 (by decide) (hts _ (wg_t kw_305)) (fun _ h9 => h9) (cd := (1, 0, 7)) rfl dDA_multiplyRow_37 (fun v27 hv27 => ?_)
      obtain rfl := (show v27 = .int (nI 7) from hv27)
      refine lv_iload_n hx hb dDA_multiplyRow_40 rfl (lv_at hl 3 rfl) ?_
      refine mi_imul hx hb dDA_multiplyRow_41 ?_
      refine lv_iload hx hb dDA_multiplyRow_42 (lv_at hl 0 rfl) ?_
      refine mi_iadd hx hb dDA_multiplyRow_44 ?_
      refine ty_aald3 hx hb hK hO kr26 (nxg hc0 kr26 rfl) hP (by omega) (by decide) dDA_multiplyRow_45 (fun r27 kr27 => ?_)
      refine lv_aload_n hx hb dDA_multiplyRow_46 rfl (lv_at hl 4 rfl) ?_
      refine lv_iload hx hb dDA_multiplyRow_47 (lv_at hl 0 rfl) ?_
      refine ty_aald3 hx hb hK hO k_vc (nxg hc0 k_vc rfl) hP (by omega) (by decide) dDA_multiplyRow_49 (fun r28 kr28 => ?_)
      refine mp_v (cx := []) (wr := []) hP hD hS hA [] [] rfl rfl rfl (by decide) (va_runV (As := [.ref r25, .ref r27, .ref r28]) (rest := []) F (t_RG_addProduct_12 l g _ T xs pl hO hU hc0 r23 r25 r27 r28 kr23 kr25 kr27 kr28) (cwV 3 hts (wg_app (wg_c kw_719 (wg_c kw_654 (wg_c kw_655 (wg_c kw_4 wg_n)))) kw_656) rfl rfl rfl (by decide +kernel) ⟨by decide, by decide⟩) (pp_VT (en_ok g) (ci := 4) (kd := (12, 0)) hK hO kr23 (nxg hc0 kr23 rfl) (fun _ h9 => ko1 h9) hP hD hS hA hE [] rfl rfl rfl) rfl rfl hl.1 rfl (lv_room (Nat.le_of_ble_eq_true rfl)) dDA_multiplyRow_50 ⟨by omega, by omega⟩) (fun  pl H locs hu22 hP hD hS => ?_)
      obtain ⟨hq22, hO⟩ := hu22
      have hP : va_P g.1 vcl ([] ++ pl) _ := hP
      have hD : va_D _ ([] ++ pl) := hD
      refine W.widen (k := 0) (n := 0) (by omega) (by omega) ?_
      refine mi_iinc (k := 0) (x := i21) (d := 1) (y := i21 + 1) (lv' := [(4, .int (nI (i21 + 1))), (0, .ref h0), (1, .ref st), (2, .int (nI rw)), (3, .ref vc)]) hx hb dDA_multiplyRow_53 hl rfl (by decide) rfl (by decide) rfl (fun ls hl => ?_)
      refine lv_goto (tgt := 13) hx hb dDA_multiplyRow_56 (by decide) ?_
      exact ih21 (i21 + 1) pl ls H locs (by omega) (lv_sub hl [0, 1, 2, 3, 4] rfl) hO hP hD hS
  exact lp21 7 0 pl ls _ _ (by omega) (lv_sub hl [0, 1, 2, 3, 4] rfl) hO hP hD hS
set_option maxHeartbeats 400000 in
set_option maxRecDepth 100000 in
theorem t_DA_readSecret_0 (l : Launch) (g : Gd) (sz : Nat) (T : Ty) (xs : List Nat) (pl : va_W) (hO : okx g T xs pl) (hU : uni T) (hc0 : clo T xs 0) (hc4 : clo T xs 4) (h0 st sk : Nat) (k_h0 : T h0 = some (15, 0)) (k_st : T st = some (43, 0)) (k_sk : T sk = some (1, 2560))  : Met l y_DA_readSecret w_DA_readSecret ({ frames := 5, cells := 0, slots := 0, locals := 152 } : Room) (va_Pc [.ref h0, .ref st, .ref sk] (pr (en g) g.1 vcl sz ([] ++ pl))) (va_Qv (fun (u : va_W) => (True) ∧ okx g T xs u) (po g.1 vcl (va_A ([] ++ pl) sz) (fun (u : va_W) => [] ++ u)) (va_A ([] ++ pl) sz)) 0 0 (va_A ([] ++ pl) sz) := by
  refine mc_entry (cc := c_DA_readSecret) (maxL := 5) (ret := none) (by decide) rfl (Nat.le_of_ble_eq_true rfl) ?_
  intro p e s m args below meth c ls F hr hlk hnm hsz hP hD hE hA hl
  obtain ⟨hx, hb, hml, hown, hts⟩ := id F
  have hK := hE.1
  generalize va_A ([] ++ pl) sz = A at hD hE hA ⊢
  have hS : va_S A s.heap s.heap [] := va_S.rf
  have hl : lv_has ls 5 [(0, .ref h0), (1, .ref st), (2, .ref sk)] := hl
  refine lv_aload_n hx hb dDA_readSecret_0 rfl (lv_at hl 0 rfl) ?_
  refine ty_get (ci := 6) (C := "LatticeKeys$Dsa") (TT := T_DA) (N := 17) (kd := (15, 0)) hx hb hts (wg_ft i_DA) hown hK hO k_h0 (nxg hc0 k_h0 rfl) hP (fun _ h9 => h9) rfl 2 (by decide) (hts _ (wg_t kw_167)) (fun _ h9 => h9) (cd := (3, 14, 0)) rfl dDA_readSecret_1 (fun v21 hv21 => ?_)
  obtain ⟨r21, rfl, kr21⟩ := (show ∃ r : Nat, v21 = .ref r ∧ T r = some (14, 0) from hv21)
  refine lv_aload_n hx hb dDA_readSecret_4 rfl (lv_at hl 1 rfl) ?_
  refine lv_aload_n hx hb dDA_readSecret_5 rfl (lv_at hl 2 rfl) ?_
  refine lv_aload_n hx hb dDA_readSecret_6 rfl (lv_at hl 0 rfl) ?_
  refine ty_get (ci := 6) (C := "LatticeKeys$Dsa") (TT := T_DA) (N := 17) (kd := (15, 0)) hx hb hts (wg_ft i_DA) hown hK hO k_h0 (nxg hc0 k_h0 rfl) hP (fun _ h9 => h9) rfl 3 (by decide) (hts _ (wg_t kw_168)) (fun _ h9 => h9) (cd := (3, 3, 56)) rfl dDA_readSecret_7 (fun v22 hv22 => ?_)
  obtain ⟨r22, rfl, kr22⟩ := (show ∃ r : Nat, v22 = .ref r ∧ T r = some (3, 56) from hv22)
  refine mp_v (cx := []) (wr := []) hP hD hS hA [] [] rfl rfl rfl (by decide) (va_runV (As := [.ref st, .ref sk, .ref r22]) (rest := []) F (t_SA_expandMatrix_0 l g _ T xs pl hO hU hc0 hc4 r21 st sk r22 2560 kr21 k_st k_sk kr22 (by omega) (by omega)) (cwV 3 hts (wg_app (wg_c kw_703 (wg_c kw_704 (wg_c kw_705 (wg_c kw_6 wg_n)))) kw_706) rfl rfl rfl (by decide +kernel) ⟨by decide, by decide⟩) (pp_VT (en_ok g) (ci := 7) (kd := (14, 0)) hK hO kr21 (nxg hc0 kr21 rfl) (fun _ h9 => ko1 h9) hP hD hS hA hE [] rfl rfl rfl) rfl rfl hl.1 rfl (lv_room (Nat.le_of_ble_eq_true rfl)) dDA_readSecret_10 ⟨by omega, by omega⟩) (fun  pl H locs hu21 hP hD hS => ?_)
  obtain ⟨hq21, hO⟩ := hu21
  have hP : va_P g.1 vcl ([] ++ pl) _ := hP
  have hD : va_D _ ([] ++ pl) := hD
  refine W.widen (k := 0) (n := 0) (by omega) (by omega) ?_
  refine lv_sipush (v := nI 128) hx hb dDA_readSecret_13 (by decide) ?_
  refine lv_istore_n (lv' := [(3, .int (nI 128)), (0, .ref h0), (1, .ref st), (2, .ref sk)]) hx hb dDA_readSecret_16 rfl hl (by decide) rfl (fun ls hl => ?_)
  refine lv_iconst (v := nI 0) hx hb dDA_readSecret_17 (by decide) ?_
  refine lv_istore (lv' := [(4, .int (nI 0)), (3, .int (nI 128)), (0, .ref h0), (1, .ref st), (2, .ref sk)]) hx hb dDA_readSecret_18 hl (by decide) rfl (fun ls hl => ?_)
  have lp21 : ∀ (n21 : Nat) (i21 : Nat) (pz21 : Nat) (pl : va_W) (ls : Array Slot) (H : Heap) (locs : List Loc), n21 + i21 = 4 → (pz21 = 128 + 96 * i21) → lv_has ls 5 [(4, .int (nI i21)), (3, .int (nI pz21)), (0, .ref h0), (1, .ref st), (2, .ref sk)] → okx g T xs pl → va_P g.1 vcl ([] ++ pl) H → va_D A ([] ++ pl) → va_S A s.heap H locs → W p l e ({ frames := 5, cells := 0, slots := 0, locals := 152 } : Room) s m args below meth c H locs 0 0 (MQ below (va_Qv (fun (u : va_W) => (True) ∧ okx g T xs u) (po g.1 vcl A (fun (u : va_W) => [] ++ u)) A) args s 0 0 A) (F0 m 20 ls []) := by
    intro n21
    induction n21 with
    | zero =>
      intro i21 pz21 pl ls H locs hm21 hi21 hl hO hP hD hS
      refine lv_iload hx hb dDA_readSecret_20 (lv_at hl 0 rfl) ?_
      refine lv_aload_n hx hb dDA_readSecret_22 rfl (lv_at hl 3 rfl) ?_
      refine ty_get (ci := 2) (C := "LatticeKeys$DsaSet") (TT := T_DS) (N := 17) (kd := (43, 0)) hx hb hts (wg_ft i_DS) hown hK hO k_st (nxg hc0 k_st rfl) hP (fun _ h9 => h9) rfl 1 (by decide) (hts _ (wg_t kw_305)) (fun _ h9 => h9) (cd := (1, 0, 4)) rfl dDA_readSecret_23 (fun v23 hv23 => ?_)
      obtain rfl := (show v23 = .int (nI 4) from hv23)
      refine mi_ge (tgt := 80) hx hb dDA_readSecret_26 (by decide) (by omega) (by omega) (fun h21 => ?_) (fun h21 => absurd h21 (by omega))
      refine lv_iconst (v := nI 0) hx hb dDA_readSecret_80 (by decide) ?_
      refine lv_istore (lv' := [(4, .int (nI 0)), (3, .int (nI pz21)), (0, .ref h0), (1, .ref st), (2, .ref sk)]) hx hb dDA_readSecret_81 hl (by decide) rfl (fun ls hl => ?_)
      have lp22 : ∀ (n22 : Nat) (i22 : Nat) (pz22 : Nat) (pl : va_W) (ls : Array Slot) (H : Heap) (locs : List Loc), n22 + i22 = 4 → (pz22 = 512 + 96 * i22) → lv_has ls 5 [(4, .int (nI i22)), (3, .int (nI pz22)), (0, .ref h0), (1, .ref st), (2, .ref sk)] → okx g T xs pl → va_P g.1 vcl ([] ++ pl) H → va_D A ([] ++ pl) → va_S A s.heap H locs → W p l e ({ frames := 5, cells := 0, slots := 0, locals := 152 } : Room) s m args below meth c H locs 0 0 (MQ below (va_Qv (fun (u : va_W) => (True) ∧ okx g T xs u) (po g.1 vcl A (fun (u : va_W) => [] ++ u)) A) args s 0 0 A) (F0 m 83 ls []) := by
        intro n22
        induction n22 with
        | zero =>
          intro i22 pz22 pl ls H locs hm22 hi22 hl hO hP hD hS
          refine lv_iload hx hb dDA_readSecret_83 (lv_at hl 0 rfl) ?_
          refine lv_aload_n hx hb dDA_readSecret_85 rfl (lv_at hl 3 rfl) ?_
          refine ty_get (ci := 2) (C := "LatticeKeys$DsaSet") (TT := T_DS) (N := 17) (kd := (43, 0)) hx hb hts (wg_ft i_DS) hown hK hO k_st (nxg hc0 k_st rfl) hP (fun _ h9 => h9) rfl 0 (by decide) (hts _ (wg_t kw_302)) (fun _ h9 => h9) (cd := (1, 0, 4)) rfl dDA_readSecret_86 (fun v24 hv24 => ?_)
          obtain rfl := (show v24 = .int (nI 4) from hv24)
          refine mi_ge (tgt := 143) hx hb dDA_readSecret_89 (by decide) (by omega) (by omega) (fun h22 => ?_) (fun h22 => absurd h22 (by omega))
          refine lv_iconst (v := nI 0) hx hb dDA_readSecret_143 (by decide) ?_
          refine lv_istore (lv' := [(4, .int (nI 0)), (3, .int (nI pz22)), (0, .ref h0), (1, .ref st), (2, .ref sk)]) hx hb dDA_readSecret_144 hl (by decide) rfl (fun ls hl => ?_)
          have lp23 : ∀ (n23 : Nat) (i23 : Nat) (pz23 : Nat) (pl : va_W) (ls : Array Slot) (H : Heap) (locs : List Loc), n23 + i23 = 4 → (pz23 = 896 + 416 * i23) → lv_has ls 5 [(4, .int (nI i23)), (3, .int (nI pz23)), (0, .ref h0), (1, .ref st), (2, .ref sk)] → okx g T xs pl → va_P g.1 vcl ([] ++ pl) H → va_D A ([] ++ pl) → va_S A s.heap H locs → W p l e ({ frames := 5, cells := 0, slots := 0, locals := 152 } : Room) s m args below meth c H locs 0 0 (MQ below (va_Qv (fun (u : va_W) => (True) ∧ okx g T xs u) (po g.1 vcl A (fun (u : va_W) => [] ++ u)) A) args s 0 0 A) (F0 m 146 ls []) := by
            intro n23
            induction n23 with
            | zero =>
              intro i23 pz23 pl ls H locs hm23 hi23 hl hO hP hD hS
              refine lv_iload hx hb dDA_readSecret_146 (lv_at hl 0 rfl) ?_
              refine lv_aload_n hx hb dDA_readSecret_148 rfl (lv_at hl 3 rfl) ?_
              refine ty_get (ci := 2) (C := "LatticeKeys$DsaSet") (TT := T_DS) (N := 17) (kd := (43, 0)) hx hb hts (wg_ft i_DS) hown hK hO k_st (nxg hc0 k_st rfl) hP (fun _ h9 => h9) rfl 0 (by decide) (hts _ (wg_t kw_302)) (fun _ h9 => h9) (cd := (1, 0, 4)) rfl dDA_readSecret_149 (fun v25 hv25 => ?_)
              obtain rfl := (show v25 = .int (nI 4) from hv25)
              refine mi_ge (tgt := 199) hx hb dDA_readSecret_152 (by decide) (by omega) (by omega) (fun h23 => ?_) (fun h23 => absurd h23 (by omega))
              exact mp_vret hx hb hr hlk hP hD hS pl ⟨trivial, hO⟩ [] rfl rfl rfl (by omega) (by omega) dDA_readSecret_199
            | succ n23 ih23 =>
              intro i23 pz23 pl ls H locs hm23 hi23 hl hO hP hD hS
              refine lv_iload hx hb dDA_readSecret_146 (lv_at hl 0 rfl) ?_
              refine lv_aload_n hx hb dDA_readSecret_148 rfl (lv_at hl 3 rfl) ?_
              refine ty_get (ci := 2) (C := "LatticeKeys$DsaSet") (TT := T_DS) (N := 17) (kd := (43, 0)) hx hb hts (wg_ft i_DS) hown hK hO k_st (nxg hc0 k_st rfl) hP (fun _ h9 => h9) rfl 0 (by decide) (hts _ (wg_t kw_302)) (fun _ h9 => h9) (cd := (1, 0, 4)) rfl dDA_readSecret_149 (fun v26 hv26 => ?_)
              obtain rfl := (show v26 = .int (nI 4) from hv26)
              refine mi_ge (tgt := 199) hx hb dDA_readSecret_152 (by decide) (by omega) (by omega) (fun h24 => absurd h24 (by omega)) (fun h24 => ?_)
              refine lv_aload_n hx hb dDA_readSecret_155 rfl (lv_at hl 2 rfl) ?_
              refine lv_aload_n hx hb dDA_readSecret_156 rfl (lv_at hl 2 rfl) ?_
              refine ty_get (ci := 6) (C := "LatticeKeys$Dsa") (TT := T_DA) (N := 17) (kd := (15, 0)) hx hb hts (wg_ft i_DA) hown hK hO k_h0 (nxg hc0 k_h0 rfl) hP (fun _ h9 => h9) rfl 6 (by decide) (hts _ (wg_t kw_171)) (fun _ h9 => h9) (cd := (3, 3, 8)) rfl dDA_readSecret_157 (fun v27 hv27 => ?_)
              obtain ⟨r23, rfl, kr23⟩ := (show ∃ r : Nat, v27 = .ref r ∧ T r = some (3, 8) from hv27)
              refine lv_iload hx hb dDA_readSecret_160 (lv_at hl 0 rfl) ?_
              refine ty_aald3 hx hb hK hO kr23 (nxg hc0 kr23 rfl) hP (by omega) (by decide) dDA_readSecret_162 (fun r24 kr24 => ?_)
              refine lv_bipush (v := nI 13) hx hb dDA_readSecret_163 (by decide) ?_
              refine lv_sipush (v := nI 4096) hx hb dDA_readSecret_165 (by decide) ?_
              refine lv_aload_n hx hb dDA_readSecret_168 rfl (lv_at hl 4 rfl) ?_
              refine lv_iload_n hx hb dDA_readSecret_169 rfl (lv_at hl 1 rfl) ?_
              refine mp_v (cx := []) (wr := []) hP hD hS hA [] [] rfl rfl rfl (by decide) (va_runV (As := [.ref r24, .int (nI 13), .int (nI 4096), .ref sk, .int (nI pz23)]) (rest := []) F (t_DA_readFlipped l g _ T xs pl hO hU hc0 h0 r24 sk 2560 13 pz23 (nI 4096) k_h0 kr24 k_sk (by omega) (by omega) (by omega)) (cwV 5 hts (wg_app (wg_c kw_1183 (wg_c kw_1185 (wg_c ks_35 (wg_c kw_5 wg_n)))) kw_1186) rfl rfl rfl (by decide +kernel) ⟨by decide, by decide⟩) (pp_VT (en_ok g) (ci := 6) (kd := (15, 0)) hK hO k_h0 (nxg hc0 k_h0 rfl) (fun _ h9 => ko1 h9) hP hD hS hA hE [] rfl rfl rfl) rfl rfl hl.1 rfl (lv_room (Nat.le_of_ble_eq_true rfl)) dDA_readSecret_170 ⟨by omega, by omega⟩) (fun  pl H locs hu22 hP hD hS => ?_)
              obtain ⟨hq22, hO⟩ := hu22
              have hP : va_P g.1 vcl ([] ++ pl) _ := hP
              have hD : va_D _ ([] ++ pl) := hD
              refine W.widen (k := 0) (n := 0) (by omega) (by omega) ?_
              refine lv_aload_n hx hb dDA_readSecret_173 rfl (lv_at hl 2 rfl) ?_
              refine ty_get (ci := 6) (C := "LatticeKeys$Dsa") (TT := T_DA) (N := 17) (kd := (15, 0)) hx hb hts (wg_ft i_DA) hown hK hO k_h0 (nxg hc0 k_h0 rfl) hP (fun _ h9 => h9) rfl 1 (by decide) (hts _ (wg_t kw_166)) (fun _ h9 => h9) (cd := (3, 12, 0)) rfl dDA_readSecret_174 (fun v28 hv28 => ?_)
              obtain ⟨r25, rfl, kr25⟩ := (show ∃ r : Nat, v28 = .ref r ∧ T r = some (12, 0) from hv28)
              refine lv_aload_n hx hb dDA_readSecret_177 rfl (lv_at hl 2 rfl) ?_
              refine ty_get (ci := 6) (C := "LatticeKeys$Dsa") (TT := T_DA) (N := 17) (kd := (15, 0)) hx hb hts (wg_ft i_DA) hown hK hO k_h0 (nxg hc0 k_h0 rfl) hP (fun _ h9 => h9) rfl 6 (by decide) (hts _ (wg_t kw_171)) (fun _ h9 => h9) (cd := (3, 3, 8)) rfl dDA_readSecret_178 (fun v29 hv29 => ?_)
              obtain ⟨r26, rfl, kr26⟩ := (show ∃ r : Nat, v29 = .ref r ∧ T r = some (3, 8) from hv29)
              refine lv_iload hx hb dDA_readSecret_181 (lv_at hl 0 rfl) ?_
              refine ty_aald3 hx hb hK hO kr26 (nxg hc0 kr26 rfl) hP (by omega) (by decide) dDA_readSecret_183 (fun r27 kr27 => ?_)
              refine mp_v (cx := []) (wr := []) hP hD hS hA [] [] rfl rfl rfl (by decide) (va_runV (As := [.ref r27]) (rest := []) F (t_RG_transform_12 l g _ T xs pl hO hU hc0 r25 r27 kr25 kr27) (cwV 1 hts (wg_app (wg_c kw_711 (wg_c kw_637 (wg_c kw_638 (wg_c kw_4 wg_n)))) kw_639) rfl rfl rfl (by decide +kernel) ⟨by decide, by decide⟩) (pp_VT (en_ok g) (ci := 4) (kd := (12, 0)) hK hO kr25 (nxg hc0 kr25 rfl) (fun _ h9 => ko1 h9) hP hD hS hA hE [] rfl rfl rfl) rfl rfl hl.1 rfl (lv_room (Nat.le_of_ble_eq_true rfl)) dDA_readSecret_184 ⟨by omega, by omega⟩) (fun  pl H locs hu23 hP hD hS => ?_)
              obtain ⟨hq23, hO⟩ := hu23
              have hP : va_P g.1 vcl ([] ++ pl) _ := hP
              have hD : va_D _ ([] ++ pl) := hD
              refine W.widen (k := 0) (n := 0) (by omega) (by omega) ?_
              refine mi_iincW (k := 1) (x := pz23) (d := 416) (y := pz23 + 416) (lv' := [(3, .int (nI (pz23 + 416))), (4, .int (nI i23)), (0, .ref h0), (1, .ref st), (2, .ref sk)]) hx hb dDA_readSecret_187 hl rfl (by decide) rfl (by decide) rfl (fun ls hl => ?_)
              refine mi_iinc (k := 1) (x := i23) (d := 1) (y := i23 + 1) (lv' := [(4, .int (nI (i23 + 1))), (3, .int (nI (pz23 + 416))), (0, .ref h0), (1, .ref st), (2, .ref sk)]) hx hb dDA_readSecret_193 hl rfl (by decide) rfl (by decide) rfl (fun ls hl => ?_)
              refine lv_goto (tgt := 146) hx hb dDA_readSecret_196 (by decide) ?_
              exact ih23 (i23 + 1) (pz23 + 416) pl ls H locs (by omega) (by omega) (lv_sub hl [0, 1, 2, 3, 4] rfl) hO hP hD hS
          exact lp23 4 0 pz22 pl ls _ _ (by omega) (by omega) (lv_sub hl [0, 1, 2, 3, 4] rfl) hO hP hD hS
        | succ n22 ih22 =>
          intro i22 pz22 pl ls H locs hm22 hi22 hl hO hP hD hS
          refine lv_iload hx hb dDA_readSecret_83 (lv_at hl 0 rfl) ?_
          refine lv_aload_n hx hb dDA_readSecret_85 rfl (lv_at hl 3 rfl) ?_
          refine ty_get (ci := 2) (C := "LatticeKeys$DsaSet") (TT := T_DS) (N := 17) (kd := (43, 0)) hx hb hts (wg_ft i_DS) hown hK hO k_st (nxg hc0 k_st rfl) hP (fun _ h9 => h9) rfl 0 (by decide) (hts _ (wg_t kw_302)) (fun _ h9 => h9) (cd := (1, 0, 4)) rfl dDA_readSecret_86 (fun v30 hv30 => ?_)
          obtain rfl := (show v30 = .int (nI 4) from hv30)
          refine mi_ge (tgt := 143) hx hb dDA_readSecret_89 (by decide) (by omega) (by omega) (fun h25 => absurd h25 (by omega)) (fun h25 => ?_)
          refine lv_aload_n hx hb dDA_readSecret_92 rfl (lv_at hl 2 rfl) ?_
          refine lv_aload_n hx hb dDA_readSecret_93 rfl (lv_at hl 2 rfl) ?_
          refine ty_get (ci := 6) (C := "LatticeKeys$Dsa") (TT := T_DA) (N := 17) (kd := (15, 0)) hx hb hts (wg_ft i_DA) hown hK hO k_h0 (nxg hc0 k_h0 rfl) hP (fun _ h9 => h9) rfl 5 (by decide) (hts _ (wg_t kw_170)) (fun _ h9 => h9) (cd := (3, 3, 8)) rfl dDA_readSecret_94 (fun v31 hv31 => ?_)
          obtain ⟨r28, rfl, kr28⟩ := (show ∃ r : Nat, v31 = .ref r ∧ T r = some (3, 8) from hv31)
          refine lv_iload hx hb dDA_readSecret_97 (lv_at hl 0 rfl) ?_
          refine ty_aald3 hx hb hK hO kr28 (nxg hc0 kr28 rfl) hP (by omega) (by decide) dDA_readSecret_99 (fun r29 kr29 => ?_)
          refine lv_aload_n hx hb dDA_readSecret_100 rfl (lv_at hl 3 rfl) ?_
          refine ty_get (ci := 2) (C := "LatticeKeys$DsaSet") (TT := T_DS) (N := 17) (kd := (43, 0)) hx hb hts (wg_ft i_DS) hown hK hO k_st (nxg hc0 k_st rfl) hP (fun _ h9 => h9) rfl 3 (by decide) (hts _ (wg_t kw_310)) (fun _ h9 => h9) (cd := (1, 0, 3)) rfl dDA_readSecret_101 (fun v32 hv32 => ?_)
          obtain rfl := (show v32 = .int (nI 3) from hv32)
          refine lv_aload_n hx hb dDA_readSecret_104 rfl (lv_at hl 3 rfl) ?_
          refine ty_get (ci := 2) (C := "LatticeKeys$DsaSet") (TT := T_DS) (N := 17) (kd := (43, 0)) hx hb hts (wg_ft i_DS) hown hK hO k_st (nxg hc0 k_st rfl) hP (fun _ h9 => h9) rfl 2 (by decide) (hts _ (wg_t kw_307)) (fun _ h9 => h9) (cd := (1, 0, 2)) rfl dDA_readSecret_105 (fun v33 hv33 => ?_)
          obtain rfl := (show v33 = .int (nI 2) from hv33)
          refine lv_aload_n hx hb dDA_readSecret_108 rfl (lv_at hl 4 rfl) ?_
          refine lv_iload_n hx hb dDA_readSecret_109 rfl (lv_at hl 1 rfl) ?_
          refine mp_v (cx := []) (wr := []) hP hD hS hA [] [] rfl rfl rfl (by decide) (va_runV (As := [.ref r29, .int (nI 3), .int (nI 2), .ref sk, .int (nI pz22)]) (rest := []) F (t_DA_readFlipped l g _ T xs pl hO hU hc0 h0 r29 sk 2560 3 pz22 (nI 2) k_h0 kr29 k_sk (by omega) (by omega) (by omega)) (cwV 5 hts (wg_app (wg_c kw_1183 (wg_c kw_1185 (wg_c ks_35 (wg_c kw_5 wg_n)))) kw_1186) rfl rfl rfl (by decide +kernel) ⟨by decide, by decide⟩) (pp_VT (en_ok g) (ci := 6) (kd := (15, 0)) hK hO k_h0 (nxg hc0 k_h0 rfl) (fun _ h9 => ko1 h9) hP hD hS hA hE [] rfl rfl rfl) rfl rfl hl.1 rfl (lv_room (Nat.le_of_ble_eq_true rfl)) dDA_readSecret_110 ⟨by omega, by omega⟩) (fun  pl H locs hu24 hP hD hS => ?_)
          obtain ⟨hq24, hO⟩ := hu24
          have hP : va_P g.1 vcl ([] ++ pl) _ := hP
          have hD : va_D _ ([] ++ pl) := hD
          refine W.widen (k := 0) (n := 0) (by omega) (by omega) ?_
          refine lv_aload_n hx hb dDA_readSecret_113 rfl (lv_at hl 2 rfl) ?_
          refine ty_get (ci := 6) (C := "LatticeKeys$Dsa") (TT := T_DA) (N := 17) (kd := (15, 0)) hx hb hts (wg_ft i_DA) hown hK hO k_h0 (nxg hc0 k_h0 rfl) hP (fun _ h9 => h9) rfl 1 (by decide) (hts _ (wg_t kw_166)) (fun _ h9 => h9) (cd := (3, 12, 0)) rfl dDA_readSecret_114 (fun v34 hv34 => ?_)
          obtain ⟨r30, rfl, kr30⟩ := (show ∃ r : Nat, v34 = .ref r ∧ T r = some (12, 0) from hv34)
          refine lv_aload_n hx hb dDA_readSecret_117 rfl (lv_at hl 2 rfl) ?_
          refine ty_get (ci := 6) (C := "LatticeKeys$Dsa") (TT := T_DA) (N := 17) (kd := (15, 0)) hx hb hts (wg_ft i_DA) hown hK hO k_h0 (nxg hc0 k_h0 rfl) hP (fun _ h9 => h9) rfl 5 (by decide) (hts _ (wg_t kw_170)) (fun _ h9 => h9) (cd := (3, 3, 8)) rfl dDA_readSecret_118 (fun v35 hv35 => ?_)
          obtain ⟨r31, rfl, kr31⟩ := (show ∃ r : Nat, v35 = .ref r ∧ T r = some (3, 8) from hv35)
          refine lv_iload hx hb dDA_readSecret_121 (lv_at hl 0 rfl) ?_
          refine ty_aald3 hx hb hK hO kr31 (nxg hc0 kr31 rfl) hP (by omega) (by decide) dDA_readSecret_123 (fun r32 kr32 => ?_)
          refine mp_v (cx := []) (wr := []) hP hD hS hA [] [] rfl rfl rfl (by decide) (va_runV (As := [.ref r32]) (rest := []) F (t_RG_transform_12 l g _ T xs pl hO hU hc0 r30 r32 kr30 kr32) (cwV 1 hts (wg_app (wg_c kw_711 (wg_c kw_637 (wg_c kw_638 (wg_c kw_4 wg_n)))) kw_639) rfl rfl rfl (by decide +kernel) ⟨by decide, by decide⟩) (pp_VT (en_ok g) (ci := 4) (kd := (12, 0)) hK hO kr30 (nxg hc0 kr30 rfl) (fun _ h9 => ko1 h9) hP hD hS hA hE [] rfl rfl rfl) rfl rfl hl.1 rfl (lv_room (Nat.le_of_ble_eq_true rfl)) dDA_readSecret_124 ⟨by omega, by omega⟩) (fun  pl H locs hu25 hP hD hS => ?_)
          obtain ⟨hq25, hO⟩ := hu25
          have hP : va_P g.1 vcl ([] ++ pl) _ := hP
          have hD : va_D _ ([] ++ pl) := hD
          refine W.widen (k := 0) (n := 0) (by omega) (by omega) ?_
          refine lv_iload_n hx hb dDA_readSecret_127 rfl (lv_at hl 1 rfl) ?_
          refine lv_bipush (v := nI 32) hx hb dDA_readSecret_128 (by decide) ?_
          refine lv_aload_n hx hb dDA_readSecret_130 rfl (lv_at hl 3 rfl) ?_
          refine ty_get (ci := 2) (C := "LatticeKeys$DsaSet") (TT := T_DS) (N := 17) (kd := (43, 0)) hx hb hts (wg_ft i_DS) hown hK hO k_st (nxg hc0 k_st rfl) hP (fun _ h9 => h9) rfl 3 (by decide) (hts _ (wg_t kw_310)) (fun _ h9 => h9) (cd := (1, 0, 3)) rfl dDA_readSecret_131 (fun v36 hv36 => ?_)
          obtain rfl := (show v36 = .int (nI 3) from hv36)
          refine mi_imul hx hb dDA_readSecret_134 ?_
          refine mi_as (show nI (32 * 3) = nI 96 from rfl) ?_
          refine mi_iadd hx hb dDA_readSecret_135 ?_
          refine lv_istore_n (lv' := [(3, .int (nI (pz22 + 96))), (4, .int (nI i22)), (0, .ref h0), (1, .ref st), (2, .ref sk)]) hx hb dDA_readSecret_136 rfl hl (by decide) rfl (fun ls hl => ?_)
          refine mi_iinc (k := 1) (x := i22) (d := 1) (y := i22 + 1) (lv' := [(4, .int (nI (i22 + 1))), (3, .int (nI (pz22 + 96))), (0, .ref h0), (1, .ref st), (2, .ref sk)]) hx hb dDA_readSecret_137 hl rfl (by decide) rfl (by decide) rfl (fun ls hl => ?_)
          refine lv_goto (tgt := 83) hx hb dDA_readSecret_140 (by decide) ?_
          exact ih22 (i22 + 1) (pz22 + 96) pl ls H locs (by omega) (by omega) (lv_sub hl [0, 1, 2, 3, 4] rfl) hO hP hD hS
      exact lp22 4 0 pz21 pl ls _ _ (by omega) (by omega) (lv_sub hl [0, 1, 2, 3, 4] rfl) hO hP hD hS
    | succ n21 ih21 =>
      intro i21 pz21 pl ls H locs hm21 hi21 hl hO hP hD hS
      refine lv_iload hx hb dDA_readSecret_20 (lv_at hl 0 rfl) ?_
      refine lv_aload_n hx hb dDA_readSecret_22 rfl (lv_at hl 3 rfl) ?_
      refine ty_get (ci := 2) (C := "LatticeKeys$DsaSet") (TT := T_DS) (N := 17) (kd := (43, 0)) hx hb hts (wg_ft i_DS) hown hK hO k_st (nxg hc0 k_st rfl) hP (fun _ h9 => h9) rfl 1 (by decide) (hts _ (wg_t kw_305)) (fun _ h9 => h9) (cd := (1, 0, 4)) rfl dDA_readSecret_23 (fun v37 hv37 => ?_)
      obtain rfl := (show v37 = .int (nI 4) from hv37)
      refine mi_ge (tgt := 80) hx hb dDA_readSecret_26 (by decide) (by omega) (by omega) (fun h26 => absurd h26 (by omega)) (fun h26 => ?_)
      refine lv_aload_n hx hb dDA_readSecret_29 rfl (lv_at hl 2 rfl) ?_
      refine lv_aload_n hx hb dDA_readSecret_30 rfl (lv_at hl 2 rfl) ?_
      refine ty_get (ci := 6) (C := "LatticeKeys$Dsa") (TT := T_DA) (N := 17) (kd := (15, 0)) hx hb hts (wg_ft i_DA) hown hK hO k_h0 (nxg hc0 k_h0 rfl) hP (fun _ h9 => h9) rfl 4 (by decide) (hts _ (wg_t kw_169)) (fun _ h9 => h9) (cd := (3, 3, 7)) rfl dDA_readSecret_31 (fun v38 hv38 => ?_)
      obtain ⟨r33, rfl, kr33⟩ := (show ∃ r : Nat, v38 = .ref r ∧ T r = some (3, 7) from hv38)
      refine lv_iload hx hb dDA_readSecret_34 (lv_at hl 0 rfl) ?_
      refine ty_aald3 hx hb hK hO kr33 (nxg hc0 kr33 rfl) hP (by omega) (by decide) dDA_readSecret_36 (fun r34 kr34 => ?_)
      refine lv_aload_n hx hb dDA_readSecret_37 rfl (lv_at hl 3 rfl) ?_
      refine ty_get (ci := 2) (C := "LatticeKeys$DsaSet") (TT := T_DS) (N := 17) (kd := (43, 0)) hx hb hts (wg_ft i_DS) hown hK hO k_st (nxg hc0 k_st rfl) hP (fun _ h9 => h9) rfl 3 (by decide) (hts _ (wg_t kw_310)) (fun _ h9 => h9) (cd := (1, 0, 3)) rfl dDA_readSecret_38 (fun v39 hv39 => ?_)
      obtain rfl := (show v39 = .int (nI 3) from hv39)
      refine lv_aload_n hx hb dDA_readSecret_41 rfl (lv_at hl 3 rfl) ?_
      refine ty_get (ci := 2) (C := "LatticeKeys$DsaSet") (TT := T_DS) (N := 17) (kd := (43, 0)) hx hb hts (wg_ft i_DS) hown hK hO k_st (nxg hc0 k_st rfl) hP (fun _ h9 => h9) rfl 2 (by decide) (hts _ (wg_t kw_307)) (fun _ h9 => h9) (cd := (1, 0, 2)) rfl dDA_readSecret_42 (fun v40 hv40 => ?_)
      obtain rfl := (show v40 = .int (nI 2) from hv40)
      refine lv_aload_n hx hb dDA_readSecret_45 rfl (lv_at hl 4 rfl) ?_
      refine lv_iload_n hx hb dDA_readSecret_46 rfl (lv_at hl 1 rfl) ?_
      refine mp_v (cx := []) (wr := []) hP hD hS hA [] [] rfl rfl rfl (by decide) (va_runV (As := [.ref r34, .int (nI 3), .int (nI 2), .ref sk, .int (nI pz21)]) (rest := []) F (t_DA_readFlipped l g _ T xs pl hO hU hc0 h0 r34 sk 2560 3 pz21 (nI 2) k_h0 kr34 k_sk (by omega) (by omega) (by omega)) (cwV 5 hts (wg_app (wg_c kw_1183 (wg_c kw_1185 (wg_c ks_35 (wg_c kw_5 wg_n)))) kw_1186) rfl rfl rfl (by decide +kernel) ⟨by decide, by decide⟩) (pp_VT (en_ok g) (ci := 6) (kd := (15, 0)) hK hO k_h0 (nxg hc0 k_h0 rfl) (fun _ h9 => ko1 h9) hP hD hS hA hE [] rfl rfl rfl) rfl rfl hl.1 rfl (lv_room (Nat.le_of_ble_eq_true rfl)) dDA_readSecret_47 ⟨by omega, by omega⟩) (fun  pl H locs hu26 hP hD hS => ?_)
      obtain ⟨hq26, hO⟩ := hu26
      have hP : va_P g.1 vcl ([] ++ pl) _ := hP
      have hD : va_D _ ([] ++ pl) := hD
      refine W.widen (k := 0) (n := 0) (by omega) (by omega) ?_
      refine lv_aload_n hx hb dDA_readSecret_50 rfl (lv_at hl 2 rfl) ?_
      refine ty_get (ci := 6) (C := "LatticeKeys$Dsa") (TT := T_DA) (N := 17) (kd := (15, 0)) hx hb hts (wg_ft i_DA) hown hK hO k_h0 (nxg hc0 k_h0 rfl) hP (fun _ h9 => h9) rfl 1 (by decide) (hts _ (wg_t kw_166)) (fun _ h9 => h9) (cd := (3, 12, 0)) rfl dDA_readSecret_51 (fun v41 hv41 => ?_)
      obtain ⟨r35, rfl, kr35⟩ := (show ∃ r : Nat, v41 = .ref r ∧ T r = some (12, 0) from hv41)
      refine lv_aload_n hx hb dDA_readSecret_54 rfl (lv_at hl 2 rfl) ?_
      refine ty_get (ci := 6) (C := "LatticeKeys$Dsa") (TT := T_DA) (N := 17) (kd := (15, 0)) hx hb hts (wg_ft i_DA) hown hK hO k_h0 (nxg hc0 k_h0 rfl) hP (fun _ h9 => h9) rfl 4 (by decide) (hts _ (wg_t kw_169)) (fun _ h9 => h9) (cd := (3, 3, 7)) rfl dDA_readSecret_55 (fun v42 hv42 => ?_)
      obtain ⟨r36, rfl, kr36⟩ := (show ∃ r : Nat, v42 = .ref r ∧ T r = some (3, 7) from hv42)
      refine lv_iload hx hb dDA_readSecret_58 (lv_at hl 0 rfl) ?_
      refine ty_aald3 hx hb hK hO kr36 (nxg hc0 kr36 rfl) hP (by omega) (by decide) dDA_readSecret_60 (fun r37 kr37 => ?_)
      refine mp_v (cx := []) (wr := []) hP hD hS hA [] [] rfl rfl rfl (by decide) (va_runV (As := [.ref r37]) (rest := []) F (t_RG_transform_12 l g _ T xs pl hO hU hc0 r35 r37 kr35 kr37) (cwV 1 hts (wg_app (wg_c kw_711 (wg_c kw_637 (wg_c kw_638 (wg_c kw_4 wg_n)))) kw_639) rfl rfl rfl (by decide +kernel) ⟨by decide, by decide⟩) (pp_VT (en_ok g) (ci := 4) (kd := (12, 0)) hK hO kr35 (nxg hc0 kr35 rfl) (fun _ h9 => ko1 h9) hP hD hS hA hE [] rfl rfl rfl) rfl rfl hl.1 rfl (lv_room (Nat.le_of_ble_eq_true rfl)) dDA_readSecret_61 ⟨by omega, by omega⟩) (fun  pl H locs hu27 hP hD hS => ?_)
      obtain ⟨hq27, hO⟩ := hu27
      have hP : va_P g.1 vcl ([] ++ pl) _ := hP
      have hD : va_D _ ([] ++ pl) := hD
      refine W.widen (k := 0) (n := 0) (by omega) (by omega) ?_
      refine lv_iload_n hx hb dDA_readSecret_64 rfl (lv_at hl 1 rfl) ?_
      refine lv_bipush (v := nI 32) hx hb dDA_readSecret_65 (by decide) ?_
      refine lv_aload_n hx hb dDA_readSecret_67 rfl (lv_at hl 3 rfl) ?_
      refine ty_get (ci := 2) (C := "LatticeKeys$DsaSet") (TT := T_DS) (N := 17) (kd := (43, 0)) hx hb hts (wg_ft i_DS) hown hK hO k_st (nxg hc0 k_st rfl) hP (fun _ h9 => h9) rfl 3 (by decide) (hts _ (wg_t kw_310)) (fun _ h9 => h9) (cd := (1, 0, 3)) rfl dDA_readSecret_68 (fun v43 hv43 => ?_)
      obtain rfl := (show v43 = .int (nI 3) from hv43)
      refine mi_imul hx hb dDA_readSecret_71 ?_
      refine mi_as (show nI (32 * 3) = nI 96 from rfl) ?_
      refine mi_iadd hx hb dDA_readSecret_72 ?_
      refine lv_istore_n (lv' := [(3, .int (nI (pz21 + 96))), (4, .int (nI i21)), (0, .ref h0), (1, .ref st), (2, .ref sk)]) hx hb dDA_readSecret_73 rfl hl (by decide) rfl (fun ls hl => ?_)
      refine mi_iinc (k := 1) (x := i21) (d := 1) (y := i21 + 1) (lv' := [(4, .int (nI (i21 + 1))), (3, .int (nI (pz21 + 96))), (0, .ref h0), (1, .ref st), (2, .ref sk)]) hx hb dDA_readSecret_74 hl rfl (by decide) rfl (by decide) rfl (fun ls hl => ?_)
      refine lv_goto (tgt := 20) hx hb dDA_readSecret_77 (by decide) ?_
      exact ih21 (i21 + 1) (pz21 + 96) pl ls H locs (by omega) (by omega) (lv_sub hl [0, 1, 2, 3, 4] rfl) hO hP hD hS
  exact lp21 4 0 128 pl ls _ _ (by omega) (by omega) (lv_sub hl [0, 1, 2, 3, 4] rfl) hO hP hD hS
set_option maxHeartbeats 400000 in
set_option maxRecDepth 100000 in
theorem t_DA_readSecret_1 (l : Launch) (g : Gd) (sz : Nat) (T : Ty) (xs : List Nat) (pl : va_W) (hO : okx g T xs pl) (hU : uni T) (hc0 : clo T xs 0) (hc4 : clo T xs 4) (h0 st sk : Nat) (k_h0 : T h0 = some (15, 0)) (k_st : T st = some (44, 0)) (k_sk : T sk = some (1, 4032))  : Met l y_DA_readSecret w_DA_readSecret ({ frames := 5, cells := 0, slots := 0, locals := 152 } : Room) (va_Pc [.ref h0, .ref st, .ref sk] (pr (en g) g.1 vcl sz ([] ++ pl))) (va_Qv (fun (u : va_W) => (True) ∧ okx g T xs u) (po g.1 vcl (va_A ([] ++ pl) sz) (fun (u : va_W) => [] ++ u)) (va_A ([] ++ pl) sz)) 0 0 (va_A ([] ++ pl) sz) := by
  refine mc_entry (cc := c_DA_readSecret) (maxL := 5) (ret := none) (by decide) rfl (Nat.le_of_ble_eq_true rfl) ?_
  intro p e s m args below meth c ls F hr hlk hnm hsz hP hD hE hA hl
  obtain ⟨hx, hb, hml, hown, hts⟩ := id F
  have hK := hE.1
  generalize va_A ([] ++ pl) sz = A at hD hE hA ⊢
  have hS : va_S A s.heap s.heap [] := va_S.rf
  have hl : lv_has ls 5 [(0, .ref h0), (1, .ref st), (2, .ref sk)] := hl
  refine lv_aload_n hx hb dDA_readSecret_0 rfl (lv_at hl 0 rfl) ?_
  refine ty_get (ci := 6) (C := "LatticeKeys$Dsa") (TT := T_DA) (N := 17) (kd := (15, 0)) hx hb hts (wg_ft i_DA) hown hK hO k_h0 (nxg hc0 k_h0 rfl) hP (fun _ h9 => h9) rfl 2 (by decide) (hts _ (wg_t kw_167)) (fun _ h9 => h9) (cd := (3, 14, 0)) rfl dDA_readSecret_1 (fun v21 hv21 => ?_)
  obtain ⟨r21, rfl, kr21⟩ := (show ∃ r : Nat, v21 = .ref r ∧ T r = some (14, 0) from hv21)
  refine lv_aload_n hx hb dDA_readSecret_4 rfl (lv_at hl 1 rfl) ?_
  refine lv_aload_n hx hb dDA_readSecret_5 rfl (lv_at hl 2 rfl) ?_
  refine lv_aload_n hx hb dDA_readSecret_6 rfl (lv_at hl 0 rfl) ?_
  refine ty_get (ci := 6) (C := "LatticeKeys$Dsa") (TT := T_DA) (N := 17) (kd := (15, 0)) hx hb hts (wg_ft i_DA) hown hK hO k_h0 (nxg hc0 k_h0 rfl) hP (fun _ h9 => h9) rfl 3 (by decide) (hts _ (wg_t kw_168)) (fun _ h9 => h9) (cd := (3, 3, 56)) rfl dDA_readSecret_7 (fun v22 hv22 => ?_)
  obtain ⟨r22, rfl, kr22⟩ := (show ∃ r : Nat, v22 = .ref r ∧ T r = some (3, 56) from hv22)
  refine mp_v (cx := []) (wr := []) hP hD hS hA [] [] rfl rfl rfl (by decide) (va_runV (As := [.ref st, .ref sk, .ref r22]) (rest := []) F (t_SA_expandMatrix_1 l g _ T xs pl hO hU hc0 hc4 r21 st sk r22 4032 kr21 k_st k_sk kr22 (by omega) (by omega)) (cwV 3 hts (wg_app (wg_c kw_703 (wg_c kw_704 (wg_c kw_705 (wg_c kw_6 wg_n)))) kw_706) rfl rfl rfl (by decide +kernel) ⟨by decide, by decide⟩) (pp_VT (en_ok g) (ci := 7) (kd := (14, 0)) hK hO kr21 (nxg hc0 kr21 rfl) (fun _ h9 => ko1 h9) hP hD hS hA hE [] rfl rfl rfl) rfl rfl hl.1 rfl (lv_room (Nat.le_of_ble_eq_true rfl)) dDA_readSecret_10 ⟨by omega, by omega⟩) (fun  pl H locs hu21 hP hD hS => ?_)
  obtain ⟨hq21, hO⟩ := hu21
  have hP : va_P g.1 vcl ([] ++ pl) _ := hP
  have hD : va_D _ ([] ++ pl) := hD
  refine W.widen (k := 0) (n := 0) (by omega) (by omega) ?_
  refine lv_sipush (v := nI 128) hx hb dDA_readSecret_13 (by decide) ?_
  refine lv_istore_n (lv' := [(3, .int (nI 128)), (0, .ref h0), (1, .ref st), (2, .ref sk)]) hx hb dDA_readSecret_16 rfl hl (by decide) rfl (fun ls hl => ?_)
  refine lv_iconst (v := nI 0) hx hb dDA_readSecret_17 (by decide) ?_
  refine lv_istore (lv' := [(4, .int (nI 0)), (3, .int (nI 128)), (0, .ref h0), (1, .ref st), (2, .ref sk)]) hx hb dDA_readSecret_18 hl (by decide) rfl (fun ls hl => ?_)
  have lp21 : ∀ (n21 : Nat) (i21 : Nat) (pz21 : Nat) (pl : va_W) (ls : Array Slot) (H : Heap) (locs : List Loc), n21 + i21 = 5 → (pz21 = 128 + 128 * i21) → lv_has ls 5 [(4, .int (nI i21)), (3, .int (nI pz21)), (0, .ref h0), (1, .ref st), (2, .ref sk)] → okx g T xs pl → va_P g.1 vcl ([] ++ pl) H → va_D A ([] ++ pl) → va_S A s.heap H locs → W p l e ({ frames := 5, cells := 0, slots := 0, locals := 152 } : Room) s m args below meth c H locs 0 0 (MQ below (va_Qv (fun (u : va_W) => (True) ∧ okx g T xs u) (po g.1 vcl A (fun (u : va_W) => [] ++ u)) A) args s 0 0 A) (F0 m 20 ls []) := by
    intro n21
    induction n21 with
    | zero =>
      intro i21 pz21 pl ls H locs hm21 hi21 hl hO hP hD hS
      refine lv_iload hx hb dDA_readSecret_20 (lv_at hl 0 rfl) ?_
      refine lv_aload_n hx hb dDA_readSecret_22 rfl (lv_at hl 3 rfl) ?_
      refine ty_get (ci := 2) (C := "LatticeKeys$DsaSet") (TT := T_DS) (N := 17) (kd := (44, 0)) hx hb hts (wg_ft i_DS) hown hK hO k_st (nxg hc0 k_st rfl) hP (fun _ h9 => h9) rfl 1 (by decide) (hts _ (wg_t kw_305)) (fun _ h9 => h9) (cd := (1, 0, 5)) rfl dDA_readSecret_23 (fun v23 hv23 => ?_)
      obtain rfl := (show v23 = .int (nI 5) from hv23)
      refine mi_ge (tgt := 80) hx hb dDA_readSecret_26 (by decide) (by omega) (by omega) (fun h21 => ?_) (fun h21 => absurd h21 (by omega))
      refine lv_iconst (v := nI 0) hx hb dDA_readSecret_80 (by decide) ?_
      refine lv_istore (lv' := [(4, .int (nI 0)), (3, .int (nI pz21)), (0, .ref h0), (1, .ref st), (2, .ref sk)]) hx hb dDA_readSecret_81 hl (by decide) rfl (fun ls hl => ?_)
      have lp22 : ∀ (n22 : Nat) (i22 : Nat) (pz22 : Nat) (pl : va_W) (ls : Array Slot) (H : Heap) (locs : List Loc), n22 + i22 = 6 → (pz22 = 768 + 128 * i22) → lv_has ls 5 [(4, .int (nI i22)), (3, .int (nI pz22)), (0, .ref h0), (1, .ref st), (2, .ref sk)] → okx g T xs pl → va_P g.1 vcl ([] ++ pl) H → va_D A ([] ++ pl) → va_S A s.heap H locs → W p l e ({ frames := 5, cells := 0, slots := 0, locals := 152 } : Room) s m args below meth c H locs 0 0 (MQ below (va_Qv (fun (u : va_W) => (True) ∧ okx g T xs u) (po g.1 vcl A (fun (u : va_W) => [] ++ u)) A) args s 0 0 A) (F0 m 83 ls []) := by
        intro n22
        induction n22 with
        | zero =>
          intro i22 pz22 pl ls H locs hm22 hi22 hl hO hP hD hS
          refine lv_iload hx hb dDA_readSecret_83 (lv_at hl 0 rfl) ?_
          refine lv_aload_n hx hb dDA_readSecret_85 rfl (lv_at hl 3 rfl) ?_
          refine ty_get (ci := 2) (C := "LatticeKeys$DsaSet") (TT := T_DS) (N := 17) (kd := (44, 0)) hx hb hts (wg_ft i_DS) hown hK hO k_st (nxg hc0 k_st rfl) hP (fun _ h9 => h9) rfl 0 (by decide) (hts _ (wg_t kw_302)) (fun _ h9 => h9) (cd := (1, 0, 6)) rfl dDA_readSecret_86 (fun v24 hv24 => ?_)
          obtain rfl := (show v24 = .int (nI 6) from hv24)
          refine mi_ge (tgt := 143) hx hb dDA_readSecret_89 (by decide) (by omega) (by omega) (fun h22 => ?_) (fun h22 => absurd h22 (by omega))
          refine lv_iconst (v := nI 0) hx hb dDA_readSecret_143 (by decide) ?_
          refine lv_istore (lv' := [(4, .int (nI 0)), (3, .int (nI pz22)), (0, .ref h0), (1, .ref st), (2, .ref sk)]) hx hb dDA_readSecret_144 hl (by decide) rfl (fun ls hl => ?_)
          have lp23 : ∀ (n23 : Nat) (i23 : Nat) (pz23 : Nat) (pl : va_W) (ls : Array Slot) (H : Heap) (locs : List Loc), n23 + i23 = 6 → (pz23 = 1536 + 416 * i23) → lv_has ls 5 [(4, .int (nI i23)), (3, .int (nI pz23)), (0, .ref h0), (1, .ref st), (2, .ref sk)] → okx g T xs pl → va_P g.1 vcl ([] ++ pl) H → va_D A ([] ++ pl) → va_S A s.heap H locs → W p l e ({ frames := 5, cells := 0, slots := 0, locals := 152 } : Room) s m args below meth c H locs 0 0 (MQ below (va_Qv (fun (u : va_W) => (True) ∧ okx g T xs u) (po g.1 vcl A (fun (u : va_W) => [] ++ u)) A) args s 0 0 A) (F0 m 146 ls []) := by
            intro n23
            induction n23 with
            | zero =>
              intro i23 pz23 pl ls H locs hm23 hi23 hl hO hP hD hS
              refine lv_iload hx hb dDA_readSecret_146 (lv_at hl 0 rfl) ?_
              refine lv_aload_n hx hb dDA_readSecret_148 rfl (lv_at hl 3 rfl) ?_
              refine ty_get (ci := 2) (C := "LatticeKeys$DsaSet") (TT := T_DS) (N := 17) (kd := (44, 0)) hx hb hts (wg_ft i_DS) hown hK hO k_st (nxg hc0 k_st rfl) hP (fun _ h9 => h9) rfl 0 (by decide) (hts _ (wg_t kw_302)) (fun _ h9 => h9) (cd := (1, 0, 6)) rfl dDA_readSecret_149 (fun v25 hv25 => ?_)
              obtain rfl := (show v25 = .int (nI 6) from hv25)
              refine mi_ge (tgt := 199) hx hb dDA_readSecret_152 (by decide) (by omega) (by omega) (fun h23 => ?_) (fun h23 => absurd h23 (by omega))
              exact mp_vret hx hb hr hlk hP hD hS pl ⟨trivial, hO⟩ [] rfl rfl rfl (by omega) (by omega) dDA_readSecret_199
            | succ n23 ih23 =>
              intro i23 pz23 pl ls H locs hm23 hi23 hl hO hP hD hS
              refine lv_iload hx hb dDA_readSecret_146 (lv_at hl 0 rfl) ?_
              refine lv_aload_n hx hb dDA_readSecret_148 rfl (lv_at hl 3 rfl) ?_
              refine ty_get (ci := 2) (C := "LatticeKeys$DsaSet") (TT := T_DS) (N := 17) (kd := (44, 0)) hx hb hts (wg_ft i_DS) hown hK hO k_st (nxg hc0 k_st rfl) hP (fun _ h9 => h9) rfl 0 (by decide) (hts _ (wg_t kw_302)) (fun _ h9 => h9) (cd := (1, 0, 6)) rfl dDA_readSecret_149 (fun v26 hv26 => ?_)
              obtain rfl := (show v26 = .int (nI 6) from hv26)
              refine mi_ge (tgt := 199) hx hb dDA_readSecret_152 (by decide) (by omega) (by omega) (fun h24 => absurd h24 (by omega)) (fun h24 => ?_)
              refine lv_aload_n hx hb dDA_readSecret_155 rfl (lv_at hl 2 rfl) ?_
              refine lv_aload_n hx hb dDA_readSecret_156 rfl (lv_at hl 2 rfl) ?_
              refine ty_get (ci := 6) (C := "LatticeKeys$Dsa") (TT := T_DA) (N := 17) (kd := (15, 0)) hx hb hts (wg_ft i_DA) hown hK hO k_h0 (nxg hc0 k_h0 rfl) hP (fun _ h9 => h9) rfl 6 (by decide) (hts _ (wg_t kw_171)) (fun _ h9 => h9) (cd := (3, 3, 8)) rfl dDA_readSecret_157 (fun v27 hv27 => ?_)
              obtain ⟨r23, rfl, kr23⟩ := (show ∃ r : Nat, v27 = .ref r ∧ T r = some (3, 8) from hv27)
              refine lv_iload hx hb dDA_readSecret_160 (lv_at hl 0 rfl) ?_
              refine ty_aald3 hx hb hK hO kr23 (nxg hc0 kr23 rfl) hP (by omega) (by decide) dDA_readSecret_162 (fun r24 kr24 => ?_)
              refine lv_bipush (v := nI 13) hx hb dDA_readSecret_163 (by decide) ?_
              refine lv_sipush (v := nI 4096) hx hb dDA_readSecret_165 (by decide) ?_
              refine lv_aload_n hx hb dDA_readSecret_168 rfl (lv_at hl 4 rfl) ?_
              refine lv_iload_n hx hb dDA_readSecret_169 rfl (lv_at hl 1 rfl) ?_
              refine mp_v (cx := []) (wr := []) hP hD hS hA [] [] rfl rfl rfl (by decide) (va_runV (As := [.ref r24, .int (nI 13), .int (nI 4096), .ref sk, .int (nI pz23)]) (rest := []) F (t_DA_readFlipped l g _ T xs pl hO hU hc0 h0 r24 sk 4032 13 pz23 (nI 4096) k_h0 kr24 k_sk (by omega) (by omega) (by omega)) (cwV 5 hts (wg_app (wg_c kw_1183 (wg_c kw_1185 (wg_c ks_35 (wg_c kw_5 wg_n)))) kw_1186) rfl rfl rfl (by decide +kernel) ⟨by decide, by decide⟩) (pp_VT (en_ok g) (ci := 6) (kd := (15, 0)) hK hO k_h0 (nxg hc0 k_h0 rfl) (fun _ h9 => ko1 h9) hP hD hS hA hE [] rfl rfl rfl) rfl rfl hl.1 rfl (lv_room (Nat.le_of_ble_eq_true rfl)) dDA_readSecret_170 ⟨by omega, by omega⟩) (fun  pl H locs hu22 hP hD hS => ?_)
              obtain ⟨hq22, hO⟩ := hu22
              have hP : va_P g.1 vcl ([] ++ pl) _ := hP
              have hD : va_D _ ([] ++ pl) := hD
              refine W.widen (k := 0) (n := 0) (by omega) (by omega) ?_
              refine lv_aload_n hx hb dDA_readSecret_173 rfl (lv_at hl 2 rfl) ?_
              refine ty_get (ci := 6) (C := "LatticeKeys$Dsa") (TT := T_DA) (N := 17) (kd := (15, 0)) hx hb hts (wg_ft i_DA) hown hK hO k_h0 (nxg hc0 k_h0 rfl) hP (fun _ h9 => h9) rfl 1 (by decide) (hts _ (wg_t kw_166)) (fun _ h9 => h9) (cd := (3, 12, 0)) rfl dDA_readSecret_174 (fun v28 hv28 => ?_)
              obtain ⟨r25, rfl, kr25⟩ := (show ∃ r : Nat, v28 = .ref r ∧ T r = some (12, 0) from hv28)
              refine lv_aload_n hx hb dDA_readSecret_177 rfl (lv_at hl 2 rfl) ?_
              refine ty_get (ci := 6) (C := "LatticeKeys$Dsa") (TT := T_DA) (N := 17) (kd := (15, 0)) hx hb hts (wg_ft i_DA) hown hK hO k_h0 (nxg hc0 k_h0 rfl) hP (fun _ h9 => h9) rfl 6 (by decide) (hts _ (wg_t kw_171)) (fun _ h9 => h9) (cd := (3, 3, 8)) rfl dDA_readSecret_178 (fun v29 hv29 => ?_)
              obtain ⟨r26, rfl, kr26⟩ := (show ∃ r : Nat, v29 = .ref r ∧ T r = some (3, 8) from hv29)
              refine lv_iload hx hb dDA_readSecret_181 (lv_at hl 0 rfl) ?_
              refine ty_aald3 hx hb hK hO kr26 (nxg hc0 kr26 rfl) hP (by omega) (by decide) dDA_readSecret_183 (fun r27 kr27 => ?_)
              refine mp_v (cx := []) (wr := []) hP hD hS hA [] [] rfl rfl rfl (by decide) (va_runV (As := [.ref r27]) (rest := []) F (t_RG_transform_12 l g _ T xs pl hO hU hc0 r25 r27 kr25 kr27) (cwV 1 hts (wg_app (wg_c kw_711 (wg_c kw_637 (wg_c kw_638 (wg_c kw_4 wg_n)))) kw_639) rfl rfl rfl (by decide +kernel) ⟨by decide, by decide⟩) (pp_VT (en_ok g) (ci := 4) (kd := (12, 0)) hK hO kr25 (nxg hc0 kr25 rfl) (fun _ h9 => ko1 h9) hP hD hS hA hE [] rfl rfl rfl) rfl rfl hl.1 rfl (lv_room (Nat.le_of_ble_eq_true rfl)) dDA_readSecret_184 ⟨by omega, by omega⟩) (fun  pl H locs hu23 hP hD hS => ?_)
              obtain ⟨hq23, hO⟩ := hu23
              have hP : va_P g.1 vcl ([] ++ pl) _ := hP
              have hD : va_D _ ([] ++ pl) := hD
              refine W.widen (k := 0) (n := 0) (by omega) (by omega) ?_
              refine mi_iincW (k := 1) (x := pz23) (d := 416) (y := pz23 + 416) (lv' := [(3, .int (nI (pz23 + 416))), (4, .int (nI i23)), (0, .ref h0), (1, .ref st), (2, .ref sk)]) hx hb dDA_readSecret_187 hl rfl (by decide) rfl (by decide) rfl (fun ls hl => ?_)
              refine mi_iinc (k := 1) (x := i23) (d := 1) (y := i23 + 1) (lv' := [(4, .int (nI (i23 + 1))), (3, .int (nI (pz23 + 416))), (0, .ref h0), (1, .ref st), (2, .ref sk)]) hx hb dDA_readSecret_193 hl rfl (by decide) rfl (by decide) rfl (fun ls hl => ?_)
              refine lv_goto (tgt := 146) hx hb dDA_readSecret_196 (by decide) ?_
              exact ih23 (i23 + 1) (pz23 + 416) pl ls H locs (by omega) (by omega) (lv_sub hl [0, 1, 2, 3, 4] rfl) hO hP hD hS
          exact lp23 6 0 pz22 pl ls _ _ (by omega) (by omega) (lv_sub hl [0, 1, 2, 3, 4] rfl) hO hP hD hS
        | succ n22 ih22 =>
          intro i22 pz22 pl ls H locs hm22 hi22 hl hO hP hD hS
          refine lv_iload hx hb dDA_readSecret_83 (lv_at hl 0 rfl) ?_
          refine lv_aload_n hx hb dDA_readSecret_85 rfl (lv_at hl 3 rfl) ?_
          refine ty_get (ci := 2) (C := "LatticeKeys$DsaSet") (TT := T_DS) (N := 17) (kd := (44, 0)) hx hb hts (wg_ft i_DS) hown hK hO k_st (nxg hc0 k_st rfl) hP (fun _ h9 => h9) rfl 0 (by decide) (hts _ (wg_t kw_302)) (fun _ h9 => h9) (cd := (1, 0, 6)) rfl dDA_readSecret_86 (fun v30 hv30 => ?_)
          obtain rfl := (show v30 = .int (nI 6) from hv30)
          refine mi_ge (tgt := 143) hx hb dDA_readSecret_89 (by decide) (by omega) (by omega) (fun h25 => absurd h25 (by omega)) (fun h25 => ?_)
          refine lv_aload_n hx hb dDA_readSecret_92 rfl (lv_at hl 2 rfl) ?_
          refine lv_aload_n hx hb dDA_readSecret_93 rfl (lv_at hl 2 rfl) ?_
          refine ty_get (ci := 6) (C := "LatticeKeys$Dsa") (TT := T_DA) (N := 17) (kd := (15, 0)) hx hb hts (wg_ft i_DA) hown hK hO k_h0 (nxg hc0 k_h0 rfl) hP (fun _ h9 => h9) rfl 5 (by decide) (hts _ (wg_t kw_170)) (fun _ h9 => h9) (cd := (3, 3, 8)) rfl dDA_readSecret_94 (fun v31 hv31 => ?_)
          obtain ⟨r28, rfl, kr28⟩ := (show ∃ r : Nat, v31 = .ref r ∧ T r = some (3, 8) from hv31)
          refine lv_iload hx hb dDA_readSecret_97 (lv_at hl 0 rfl) ?_
          refine ty_aald3 hx hb hK hO kr28 (nxg hc0 kr28 rfl) hP (by omega) (by decide) dDA_readSecret_99 (fun r29 kr29 => ?_)
          refine lv_aload_n hx hb dDA_readSecret_100 rfl (lv_at hl 3 rfl) ?_
          refine ty_get (ci := 2) (C := "LatticeKeys$DsaSet") (TT := T_DS) (N := 17) (kd := (44, 0)) hx hb hts (wg_ft i_DS) hown hK hO k_st (nxg hc0 k_st rfl) hP (fun _ h9 => h9) rfl 3 (by decide) (hts _ (wg_t kw_310)) (fun _ h9 => h9) (cd := (1, 0, 4)) rfl dDA_readSecret_101 (fun v32 hv32 => ?_)
          obtain rfl := (show v32 = .int (nI 4) from hv32)
          refine lv_aload_n hx hb dDA_readSecret_104 rfl (lv_at hl 3 rfl) ?_
          refine ty_get (ci := 2) (C := "LatticeKeys$DsaSet") (TT := T_DS) (N := 17) (kd := (44, 0)) hx hb hts (wg_ft i_DS) hown hK hO k_st (nxg hc0 k_st rfl) hP (fun _ h9 => h9) rfl 2 (by decide) (hts _ (wg_t kw_307)) (fun _ h9 => h9) (cd := (1, 0, 4)) rfl dDA_readSecret_105 (fun v33 hv33 => ?_)
          obtain rfl := (show v33 = .int (nI 4) from hv33)
          refine lv_aload_n hx hb dDA_readSecret_108 rfl (lv_at hl 4 rfl) ?_
          refine lv_iload_n hx hb dDA_readSecret_109 rfl (lv_at hl 1 rfl) ?_
          refine mp_v (cx := []) (wr := []) hP hD hS hA [] [] rfl rfl rfl (by decide) (va_runV (As := [.ref r29, .int (nI 4), .int (nI 4), .ref sk, .int (nI pz22)]) (rest := []) F (t_DA_readFlipped l g _ T xs pl hO hU hc0 h0 r29 sk 4032 4 pz22 (nI 4) k_h0 kr29 k_sk (by omega) (by omega) (by omega)) (cwV 5 hts (wg_app (wg_c kw_1183 (wg_c kw_1185 (wg_c ks_35 (wg_c kw_5 wg_n)))) kw_1186) rfl rfl rfl (by decide +kernel) ⟨by decide, by decide⟩) (pp_VT (en_ok g) (ci := 6) (kd := (15, 0)) hK hO k_h0 (nxg hc0 k_h0 rfl) (fun _ h9 => ko1 h9) hP hD hS hA hE [] rfl rfl rfl) rfl rfl hl.1 rfl (lv_room (Nat.le_of_ble_eq_true rfl)) dDA_readSecret_110 ⟨by omega, by omega⟩) (fun  pl H locs hu24 hP hD hS => ?_)
          obtain ⟨hq24, hO⟩ := hu24
          have hP : va_P g.1 vcl ([] ++ pl) _ := hP
          have hD : va_D _ ([] ++ pl) := hD
          refine W.widen (k := 0) (n := 0) (by omega) (by omega) ?_
          refine lv_aload_n hx hb dDA_readSecret_113 rfl (lv_at hl 2 rfl) ?_
          refine ty_get (ci := 6) (C := "LatticeKeys$Dsa") (TT := T_DA) (N := 17) (kd := (15, 0)) hx hb hts (wg_ft i_DA) hown hK hO k_h0 (nxg hc0 k_h0 rfl) hP (fun _ h9 => h9) rfl 1 (by decide) (hts _ (wg_t kw_166)) (fun _ h9 => h9) (cd := (3, 12, 0)) rfl dDA_readSecret_114 (fun v34 hv34 => ?_)
          obtain ⟨r30, rfl, kr30⟩ := (show ∃ r : Nat, v34 = .ref r ∧ T r = some (12, 0) from hv34)
          refine lv_aload_n hx hb dDA_readSecret_117 rfl (lv_at hl 2 rfl) ?_
          refine ty_get (ci := 6) (C := "LatticeKeys$Dsa") (TT := T_DA) (N := 17) (kd := (15, 0)) hx hb hts (wg_ft i_DA) hown hK hO k_h0 (nxg hc0 k_h0 rfl) hP (fun _ h9 => h9) rfl 5 (by decide) (hts _ (wg_t kw_170)) (fun _ h9 => h9) (cd := (3, 3, 8)) rfl dDA_readSecret_118 (fun v35 hv35 => ?_)
          obtain ⟨r31, rfl, kr31⟩ := (show ∃ r : Nat, v35 = .ref r ∧ T r = some (3, 8) from hv35)
          refine lv_iload hx hb dDA_readSecret_121 (lv_at hl 0 rfl) ?_
          refine ty_aald3 hx hb hK hO kr31 (nxg hc0 kr31 rfl) hP (by omega) (by decide) dDA_readSecret_123 (fun r32 kr32 => ?_)
          refine mp_v (cx := []) (wr := []) hP hD hS hA [] [] rfl rfl rfl (by decide) (va_runV (As := [.ref r32]) (rest := []) F (t_RG_transform_12 l g _ T xs pl hO hU hc0 r30 r32 kr30 kr32) (cwV 1 hts (wg_app (wg_c kw_711 (wg_c kw_637 (wg_c kw_638 (wg_c kw_4 wg_n)))) kw_639) rfl rfl rfl (by decide +kernel) ⟨by decide, by decide⟩) (pp_VT (en_ok g) (ci := 4) (kd := (12, 0)) hK hO kr30 (nxg hc0 kr30 rfl) (fun _ h9 => ko1 h9) hP hD hS hA hE [] rfl rfl rfl) rfl rfl hl.1 rfl (lv_room (Nat.le_of_ble_eq_true rfl)) dDA_readSecret_124 ⟨by omega, by omega⟩) (fun  pl H locs hu25 hP hD hS => ?_)
          obtain ⟨hq25, hO⟩ := hu25
          have hP : va_P g.1 vcl ([] ++ pl) _ := hP
          have hD : va_D _ ([] ++ pl) := hD
          refine W.widen (k := 0) (n := 0) (by omega) (by omega) ?_
          refine lv_iload_n hx hb dDA_readSecret_127 rfl (lv_at hl 1 rfl) ?_
          refine lv_bipush (v := nI 32) hx hb dDA_readSecret_128 (by decide) ?_
          refine lv_aload_n hx hb dDA_readSecret_130 rfl (lv_at hl 3 rfl) ?_
          refine ty_get (ci := 2) (C := "LatticeKeys$DsaSet") (TT := T_DS) (N := 17) (kd := (44, 0)) hx hb hts (wg_ft i_DS) hown hK hO k_st (nxg hc0 k_st rfl) hP (fun _ h9 => h9) rfl 3 (by decide) (hts _ (wg_t kw_310)) (fun _ h9 => h9) (cd := (1, 0, 4)) rfl dDA_readSecret_131 (fun v36 hv36 => ?_)
          obtain rfl := (show v36 = .int (nI 4) from hv36)
          refine mi_imul hx hb dDA_readSecret_134 ?_
          refine mi_as (show nI (32 * 4) = nI 128 from rfl) ?_
          refine mi_iadd hx hb dDA_readSecret_135 ?_
          refine lv_istore_n (lv' := [(3, .int (nI (pz22 + 128))), (4, .int (nI i22)), (0, .ref h0), (1, .ref st), (2, .ref sk)]) hx hb dDA_readSecret_136 rfl hl (by decide) rfl (fun ls hl => ?_)
          refine mi_iinc (k := 1) (x := i22) (d := 1) (y := i22 + 1) (lv' := [(4, .int (nI (i22 + 1))), (3, .int (nI (pz22 + 128))), (0, .ref h0), (1, .ref st), (2, .ref sk)]) hx hb dDA_readSecret_137 hl rfl (by decide) rfl (by decide) rfl (fun ls hl => ?_)
          refine lv_goto (tgt := 83) hx hb dDA_readSecret_140 (by decide) ?_
          exact ih22 (i22 + 1) (pz22 + 128) pl ls H locs (by omega) (by omega) (lv_sub hl [0, 1, 2, 3, 4] rfl) hO hP hD hS
      exact lp22 6 0 pz21 pl ls _ _ (by omega) (by omega) (lv_sub hl [0, 1, 2, 3, 4] rfl) hO hP hD hS
    | succ n21 ih21 =>
      intro i21 pz21 pl ls H locs hm21 hi21 hl hO hP hD hS
      refine lv_iload hx hb dDA_readSecret_20 (lv_at hl 0 rfl) ?_
      refine lv_aload_n hx hb dDA_readSecret_22 rfl (lv_at hl 3 rfl) ?_
      refine ty_get (ci := 2) (C := "LatticeKeys$DsaSet") (TT := T_DS) (N := 17) (kd := (44, 0)) hx hb hts (wg_ft i_DS) hown hK hO k_st (nxg hc0 k_st rfl) hP (fun _ h9 => h9) rfl 1 (by decide) (hts _ (wg_t kw_305)) (fun _ h9 => h9) (cd := (1, 0, 5)) rfl dDA_readSecret_23 (fun v37 hv37 => ?_)
      obtain rfl := (show v37 = .int (nI 5) from hv37)
      refine mi_ge (tgt := 80) hx hb dDA_readSecret_26 (by decide) (by omega) (by omega) (fun h26 => absurd h26 (by omega)) (fun h26 => ?_)
      refine lv_aload_n hx hb dDA_readSecret_29 rfl (lv_at hl 2 rfl) ?_
      refine lv_aload_n hx hb dDA_readSecret_30 rfl (lv_at hl 2 rfl) ?_
      refine ty_get (ci := 6) (C := "LatticeKeys$Dsa") (TT := T_DA) (N := 17) (kd := (15, 0)) hx hb hts (wg_ft i_DA) hown hK hO k_h0 (nxg hc0 k_h0 rfl) hP (fun _ h9 => h9) rfl 4 (by decide) (hts _ (wg_t kw_169)) (fun _ h9 => h9) (cd := (3, 3, 7)) rfl dDA_readSecret_31 (fun v38 hv38 => ?_)
      obtain ⟨r33, rfl, kr33⟩ := (show ∃ r : Nat, v38 = .ref r ∧ T r = some (3, 7) from hv38)
      refine lv_iload hx hb dDA_readSecret_34 (lv_at hl 0 rfl) ?_
      refine ty_aald3 hx hb hK hO kr33 (nxg hc0 kr33 rfl) hP (by omega) (by decide) dDA_readSecret_36 (fun r34 kr34 => ?_)
      refine lv_aload_n hx hb dDA_readSecret_37 rfl (lv_at hl 3 rfl) ?_
      refine ty_get (ci := 2) (C := "LatticeKeys$DsaSet") (TT := T_DS) (N := 17) (kd := (44, 0)) hx hb hts (wg_ft i_DS) hown hK hO k_st (nxg hc0 k_st rfl) hP (fun _ h9 => h9) rfl 3 (by decide) (hts _ (wg_t kw_310)) (fun _ h9 => h9) (cd := (1, 0, 4)) rfl dDA_readSecret_38 (fun v39 hv39 => ?_)
      obtain rfl := (show v39 = .int (nI 4) from hv39)
      refine lv_aload_n hx hb dDA_readSecret_41 rfl (lv_at hl 3 rfl) ?_
      refine ty_get (ci := 2) (C := "LatticeKeys$DsaSet") (TT := T_DS) (N := 17) (kd := (44, 0)) hx hb hts (wg_ft i_DS) hown hK hO k_st (nxg hc0 k_st rfl) hP (fun _ h9 => h9) rfl 2 (by decide) (hts _ (wg_t kw_307)) (fun _ h9 => h9) (cd := (1, 0, 4)) rfl dDA_readSecret_42 (fun v40 hv40 => ?_)
      obtain rfl := (show v40 = .int (nI 4) from hv40)
      refine lv_aload_n hx hb dDA_readSecret_45 rfl (lv_at hl 4 rfl) ?_
      refine lv_iload_n hx hb dDA_readSecret_46 rfl (lv_at hl 1 rfl) ?_
      refine mp_v (cx := []) (wr := []) hP hD hS hA [] [] rfl rfl rfl (by decide) (va_runV (As := [.ref r34, .int (nI 4), .int (nI 4), .ref sk, .int (nI pz21)]) (rest := []) F (t_DA_readFlipped l g _ T xs pl hO hU hc0 h0 r34 sk 4032 4 pz21 (nI 4) k_h0 kr34 k_sk (by omega) (by omega) (by omega)) (cwV 5 hts (wg_app (wg_c kw_1183 (wg_c kw_1185 (wg_c ks_35 (wg_c kw_5 wg_n)))) kw_1186) rfl rfl rfl (by decide +kernel) ⟨by decide, by decide⟩) (pp_VT (en_ok g) (ci := 6) (kd := (15, 0)) hK hO k_h0 (nxg hc0 k_h0 rfl) (fun _ h9 => ko1 h9) hP hD hS hA hE [] rfl rfl rfl) rfl rfl hl.1 rfl (lv_room (Nat.le_of_ble_eq_true rfl)) dDA_readSecret_47 ⟨by omega, by omega⟩) (fun  pl H locs hu26 hP hD hS => ?_)
      obtain ⟨hq26, hO⟩ := hu26
      have hP : va_P g.1 vcl ([] ++ pl) _ := hP
      have hD : va_D _ ([] ++ pl) := hD
      refine W.widen (k := 0) (n := 0) (by omega) (by omega) ?_
      refine lv_aload_n hx hb dDA_readSecret_50 rfl (lv_at hl 2 rfl) ?_
      refine ty_get (ci := 6) (C := "LatticeKeys$Dsa") (TT := T_DA) (N := 17) (kd := (15, 0)) hx hb hts (wg_ft i_DA) hown hK hO k_h0 (nxg hc0 k_h0 rfl) hP (fun _ h9 => h9) rfl 1 (by decide) (hts _ (wg_t kw_166)) (fun _ h9 => h9) (cd := (3, 12, 0)) rfl dDA_readSecret_51 (fun v41 hv41 => ?_)
      obtain ⟨r35, rfl, kr35⟩ := (show ∃ r : Nat, v41 = .ref r ∧ T r = some (12, 0) from hv41)
      refine lv_aload_n hx hb dDA_readSecret_54 rfl (lv_at hl 2 rfl) ?_
      refine ty_get (ci := 6) (C := "LatticeKeys$Dsa") (TT := T_DA) (N := 17) (kd := (15, 0)) hx hb hts (wg_ft i_DA) hown hK hO k_h0 (nxg hc0 k_h0 rfl) hP (fun _ h9 => h9) rfl 4 (by decide) (hts _ (wg_t kw_169)) (fun _ h9 => h9) (cd := (3, 3, 7)) rfl dDA_readSecret_55 (fun v42 hv42 => ?_)
      obtain ⟨r36, rfl, kr36⟩ := (show ∃ r : Nat, v42 = .ref r ∧ T r = some (3, 7) from hv42)
      refine lv_iload hx hb dDA_readSecret_58 (lv_at hl 0 rfl) ?_
      refine ty_aald3 hx hb hK hO kr36 (nxg hc0 kr36 rfl) hP (by omega) (by decide) dDA_readSecret_60 (fun r37 kr37 => ?_)
      refine mp_v (cx := []) (wr := []) hP hD hS hA [] [] rfl rfl rfl (by decide) (va_runV (As := [.ref r37]) (rest := []) F (t_RG_transform_12 l g _ T xs pl hO hU hc0 r35 r37 kr35 kr37) (cwV 1 hts (wg_app (wg_c kw_711 (wg_c kw_637 (wg_c kw_638 (wg_c kw_4 wg_n)))) kw_639) rfl rfl rfl (by decide +kernel) ⟨by decide, by decide⟩) (pp_VT (en_ok g) (ci := 4) (kd := (12, 0)) hK hO kr35 (nxg hc0 kr35 rfl) (fun _ h9 => ko1 h9) hP hD hS hA hE [] rfl rfl rfl) rfl rfl hl.1 rfl (lv_room (Nat.le_of_ble_eq_true rfl)) dDA_readSecret_61 ⟨by omega, by omega⟩) (fun  pl H locs hu27 hP hD hS => ?_)
      obtain ⟨hq27, hO⟩ := hu27
      have hP : va_P g.1 vcl ([] ++ pl) _ := hP
      have hD : va_D _ ([] ++ pl) := hD
      refine W.widen (k := 0) (n := 0) (by omega) (by omega) ?_
      refine lv_iload_n hx hb dDA_readSecret_64 rfl (lv_at hl 1 rfl) ?_
      refine lv_bipush (v := nI 32) hx hb dDA_readSecret_65 (by decide) ?_
      refine lv_aload_n hx hb dDA_readSecret_67 rfl (lv_at hl 3 rfl) ?_
      refine ty_get (ci := 2) (C := "LatticeKeys$DsaSet") (TT := T_DS) (N := 17) (kd := (44, 0)) hx hb hts (wg_ft i_DS) hown hK hO k_st (nxg hc0 k_st rfl) hP (fun _ h9 => h9) rfl 3 (by decide) (hts _ (wg_t kw_310)) (fun _ h9 => h9) (cd := (1, 0, 4)) rfl dDA_readSecret_68 (fun v43 hv43 => ?_)
      obtain rfl := (show v43 = .int (nI 4) from hv43)
      refine mi_imul hx hb dDA_readSecret_71 ?_
      refine mi_as (show nI (32 * 4) = nI 128 from rfl) ?_
      refine mi_iadd hx hb dDA_readSecret_72 ?_
      refine lv_istore_n (lv' := [(3, .int (nI (pz21 + 128))), (4, .int (nI i21)), (0, .ref h0), (1, .ref st), (2, .ref sk)]) hx hb dDA_readSecret_73 rfl hl (by decide) rfl (fun ls hl => ?_)
      refine mi_iinc (k := 1) (x := i21) (d := 1) (y := i21 + 1) (lv' := [(4, .int (nI (i21 + 1))), (3, .int (nI (pz21 + 128))), (0, .ref h0), (1, .ref st), (2, .ref sk)]) hx hb dDA_readSecret_74 hl rfl (by decide) rfl (by decide) rfl (fun ls hl => ?_)
      refine lv_goto (tgt := 20) hx hb dDA_readSecret_77 (by decide) ?_
      exact ih21 (i21 + 1) (pz21 + 128) pl ls H locs (by omega) (by omega) (lv_sub hl [0, 1, 2, 3, 4] rfl) hO hP hD hS
  exact lp21 5 0 128 pl ls _ _ (by omega) (by omega) (lv_sub hl [0, 1, 2, 3, 4] rfl) hO hP hD hS
set_option maxHeartbeats 400000 in
set_option maxRecDepth 100000 in
theorem t_DA_readSecret_2 (l : Launch) (g : Gd) (sz : Nat) (T : Ty) (xs : List Nat) (pl : va_W) (hO : okx g T xs pl) (hU : uni T) (hc0 : clo T xs 0) (hc4 : clo T xs 4) (h0 st sk : Nat) (k_h0 : T h0 = some (15, 0)) (k_st : T st = some (45, 0)) (k_sk : T sk = some (1, 4896))  : Met l y_DA_readSecret w_DA_readSecret ({ frames := 5, cells := 0, slots := 0, locals := 152 } : Room) (va_Pc [.ref h0, .ref st, .ref sk] (pr (en g) g.1 vcl sz ([] ++ pl))) (va_Qv (fun (u : va_W) => (True) ∧ okx g T xs u) (po g.1 vcl (va_A ([] ++ pl) sz) (fun (u : va_W) => [] ++ u)) (va_A ([] ++ pl) sz)) 0 0 (va_A ([] ++ pl) sz) := by
  refine mc_entry (cc := c_DA_readSecret) (maxL := 5) (ret := none) (by decide) rfl (Nat.le_of_ble_eq_true rfl) ?_
  intro p e s m args below meth c ls F hr hlk hnm hsz hP hD hE hA hl
  obtain ⟨hx, hb, hml, hown, hts⟩ := id F
  have hK := hE.1
  generalize va_A ([] ++ pl) sz = A at hD hE hA ⊢
  have hS : va_S A s.heap s.heap [] := va_S.rf
  have hl : lv_has ls 5 [(0, .ref h0), (1, .ref st), (2, .ref sk)] := hl
  refine lv_aload_n hx hb dDA_readSecret_0 rfl (lv_at hl 0 rfl) ?_
  refine ty_get (ci := 6) (C := "LatticeKeys$Dsa") (TT := T_DA) (N := 17) (kd := (15, 0)) hx hb hts (wg_ft i_DA) hown hK hO k_h0 (nxg hc0 k_h0 rfl) hP (fun _ h9 => h9) rfl 2 (by decide) (hts _ (wg_t kw_167)) (fun _ h9 => h9) (cd := (3, 14, 0)) rfl dDA_readSecret_1 (fun v21 hv21 => ?_)
  obtain ⟨r21, rfl, kr21⟩ := (show ∃ r : Nat, v21 = .ref r ∧ T r = some (14, 0) from hv21)
  refine lv_aload_n hx hb dDA_readSecret_4 rfl (lv_at hl 1 rfl) ?_
  refine lv_aload_n hx hb dDA_readSecret_5 rfl (lv_at hl 2 rfl) ?_
  refine lv_aload_n hx hb dDA_readSecret_6 rfl (lv_at hl 0 rfl) ?_
  refine ty_get (ci := 6) (C := "LatticeKeys$Dsa") (TT := T_DA) (N := 17) (kd := (15, 0)) hx hb hts (wg_ft i_DA) hown hK hO k_h0 (nxg hc0 k_h0 rfl) hP (fun _ h9 => h9) rfl 3 (by decide) (hts _ (wg_t kw_168)) (fun _ h9 => h9) (cd := (3, 3, 56)) rfl dDA_readSecret_7 (fun v22 hv22 => ?_)
  obtain ⟨r22, rfl, kr22⟩ := (show ∃ r : Nat, v22 = .ref r ∧ T r = some (3, 56) from hv22)
  refine mp_v (cx := []) (wr := []) hP hD hS hA [] [] rfl rfl rfl (by decide) (va_runV (As := [.ref st, .ref sk, .ref r22]) (rest := []) F (t_SA_expandMatrix_2 l g _ T xs pl hO hU hc0 hc4 r21 st sk r22 4896 kr21 k_st k_sk kr22 (by omega) (by omega)) (cwV 3 hts (wg_app (wg_c kw_703 (wg_c kw_704 (wg_c kw_705 (wg_c kw_6 wg_n)))) kw_706) rfl rfl rfl (by decide +kernel) ⟨by decide, by decide⟩) (pp_VT (en_ok g) (ci := 7) (kd := (14, 0)) hK hO kr21 (nxg hc0 kr21 rfl) (fun _ h9 => ko1 h9) hP hD hS hA hE [] rfl rfl rfl) rfl rfl hl.1 rfl (lv_room (Nat.le_of_ble_eq_true rfl)) dDA_readSecret_10 ⟨by omega, by omega⟩) (fun  pl H locs hu21 hP hD hS => ?_)
  obtain ⟨hq21, hO⟩ := hu21
  have hP : va_P g.1 vcl ([] ++ pl) _ := hP
  have hD : va_D _ ([] ++ pl) := hD
  refine W.widen (k := 0) (n := 0) (by omega) (by omega) ?_
  refine lv_sipush (v := nI 128) hx hb dDA_readSecret_13 (by decide) ?_
  refine lv_istore_n (lv' := [(3, .int (nI 128)), (0, .ref h0), (1, .ref st), (2, .ref sk)]) hx hb dDA_readSecret_16 rfl hl (by decide) rfl (fun ls hl => ?_)
  refine lv_iconst (v := nI 0) hx hb dDA_readSecret_17 (by decide) ?_
  refine lv_istore (lv' := [(4, .int (nI 0)), (3, .int (nI 128)), (0, .ref h0), (1, .ref st), (2, .ref sk)]) hx hb dDA_readSecret_18 hl (by decide) rfl (fun ls hl => ?_)
  have lp21 : ∀ (n21 : Nat) (i21 : Nat) (pz21 : Nat) (pl : va_W) (ls : Array Slot) (H : Heap) (locs : List Loc), n21 + i21 = 7 → (pz21 = 128 + 96 * i21) → lv_has ls 5 [(4, .int (nI i21)), (3, .int (nI pz21)), (0, .ref h0), (1, .ref st), (2, .ref sk)] → okx g T xs pl → va_P g.1 vcl ([] ++ pl) H → va_D A ([] ++ pl) → va_S A s.heap H locs → W p l e ({ frames := 5, cells := 0, slots := 0, locals := 152 } : Room) s m args below meth c H locs 0 0 (MQ below (va_Qv (fun (u : va_W) => (True) ∧ okx g T xs u) (po g.1 vcl A (fun (u : va_W) => [] ++ u)) A) args s 0 0 A) (F0 m 20 ls []) := by
    intro n21
    induction n21 with
    | zero =>
      intro i21 pz21 pl ls H locs hm21 hi21 hl hO hP hD hS
      refine lv_iload hx hb dDA_readSecret_20 (lv_at hl 0 rfl) ?_
      refine lv_aload_n hx hb dDA_readSecret_22 rfl (lv_at hl 3 rfl) ?_
      refine ty_get (ci := 2) (C := "LatticeKeys$DsaSet") (TT := T_DS) (N := 17) (kd := (45, 0)) hx hb hts (wg_ft i_DS) hown hK hO k_st (nxg hc0 k_st rfl) hP (fun _ h9 => h9) rfl 1 (by decide) (hts _ (wg_t kw_305)) (fun _ h9 => h9) (cd := (1, 0, 7)) rfl dDA_readSecret_23 (fun v23 hv23 => ?_)
      obtain rfl := (show v23 = .int (nI 7) from hv23)
      refine mi_ge (tgt := 80) hx hb dDA_readSecret_26 (by decide) (by omega) (by omega) (fun h21 => ?_) (fun h21 => absurd h21 (by omega))
      refine lv_iconst (v := nI 0) hx hb dDA_readSecret_80 (by decide) ?_
      refine lv_istore (lv' := [(4, .int (nI 0)), (3, .int (nI pz21)), (0, .ref h0), (1, .ref st), (2, .ref sk)]) hx hb dDA_readSecret_81 hl (by decide) rfl (fun ls hl => ?_)
      have lp22 : ∀ (n22 : Nat) (i22 : Nat) (pz22 : Nat) (pl : va_W) (ls : Array Slot) (H : Heap) (locs : List Loc), n22 + i22 = 8 → (pz22 = 800 + 96 * i22) → lv_has ls 5 [(4, .int (nI i22)), (3, .int (nI pz22)), (0, .ref h0), (1, .ref st), (2, .ref sk)] → okx g T xs pl → va_P g.1 vcl ([] ++ pl) H → va_D A ([] ++ pl) → va_S A s.heap H locs → W p l e ({ frames := 5, cells := 0, slots := 0, locals := 152 } : Room) s m args below meth c H locs 0 0 (MQ below (va_Qv (fun (u : va_W) => (True) ∧ okx g T xs u) (po g.1 vcl A (fun (u : va_W) => [] ++ u)) A) args s 0 0 A) (F0 m 83 ls []) := by
        intro n22
        induction n22 with
        | zero =>
          intro i22 pz22 pl ls H locs hm22 hi22 hl hO hP hD hS
          refine lv_iload hx hb dDA_readSecret_83 (lv_at hl 0 rfl) ?_
          refine lv_aload_n hx hb dDA_readSecret_85 rfl (lv_at hl 3 rfl) ?_
          refine ty_get (ci := 2) (C := "LatticeKeys$DsaSet") (TT := T_DS) (N := 17) (kd := (45, 0)) hx hb hts (wg_ft i_DS) hown hK hO k_st (nxg hc0 k_st rfl) hP (fun _ h9 => h9) rfl 0 (by decide) (hts _ (wg_t kw_302)) (fun _ h9 => h9) (cd := (1, 0, 8)) rfl dDA_readSecret_86 (fun v24 hv24 => ?_)
          obtain rfl := (show v24 = .int (nI 8) from hv24)
          refine mi_ge (tgt := 143) hx hb dDA_readSecret_89 (by decide) (by omega) (by omega) (fun h22 => ?_) (fun h22 => absurd h22 (by omega))
          refine lv_iconst (v := nI 0) hx hb dDA_readSecret_143 (by decide) ?_
          refine lv_istore (lv' := [(4, .int (nI 0)), (3, .int (nI pz22)), (0, .ref h0), (1, .ref st), (2, .ref sk)]) hx hb dDA_readSecret_144 hl (by decide) rfl (fun ls hl => ?_)
          have lp23 : ∀ (n23 : Nat) (i23 : Nat) (pz23 : Nat) (pl : va_W) (ls : Array Slot) (H : Heap) (locs : List Loc), n23 + i23 = 8 → (pz23 = 1568 + 416 * i23) → lv_has ls 5 [(4, .int (nI i23)), (3, .int (nI pz23)), (0, .ref h0), (1, .ref st), (2, .ref sk)] → okx g T xs pl → va_P g.1 vcl ([] ++ pl) H → va_D A ([] ++ pl) → va_S A s.heap H locs → W p l e ({ frames := 5, cells := 0, slots := 0, locals := 152 } : Room) s m args below meth c H locs 0 0 (MQ below (va_Qv (fun (u : va_W) => (True) ∧ okx g T xs u) (po g.1 vcl A (fun (u : va_W) => [] ++ u)) A) args s 0 0 A) (F0 m 146 ls []) := by
            intro n23
            induction n23 with
            | zero =>
              intro i23 pz23 pl ls H locs hm23 hi23 hl hO hP hD hS
              refine lv_iload hx hb dDA_readSecret_146 (lv_at hl 0 rfl) ?_
              refine lv_aload_n hx hb dDA_readSecret_148 rfl (lv_at hl 3 rfl) ?_
              refine ty_get (ci := 2) (C := "LatticeKeys$DsaSet") (TT := T_DS) (N := 17) (kd := (45, 0)) hx hb hts (wg_ft i_DS) hown hK hO k_st (nxg hc0 k_st rfl) hP (fun _ h9 => h9) rfl 0 (by decide) (hts _ (wg_t kw_302)) (fun _ h9 => h9) (cd := (1, 0, 8)) rfl dDA_readSecret_149 (fun v25 hv25 => ?_)
              obtain rfl := (show v25 = .int (nI 8) from hv25)
              refine mi_ge (tgt := 199) hx hb dDA_readSecret_152 (by decide) (by omega) (by omega) (fun h23 => ?_) (fun h23 => absurd h23 (by omega))
              exact mp_vret hx hb hr hlk hP hD hS pl ⟨trivial, hO⟩ [] rfl rfl rfl (by omega) (by omega) dDA_readSecret_199
            | succ n23 ih23 =>
              intro i23 pz23 pl ls H locs hm23 hi23 hl hO hP hD hS
              refine lv_iload hx hb dDA_readSecret_146 (lv_at hl 0 rfl) ?_
              refine lv_aload_n hx hb dDA_readSecret_148 rfl (lv_at hl 3 rfl) ?_
              refine ty_get (ci := 2) (C := "LatticeKeys$DsaSet") (TT := T_DS) (N := 17) (kd := (45, 0)) hx hb hts (wg_ft i_DS) hown hK hO k_st (nxg hc0 k_st rfl) hP (fun _ h9 => h9) rfl 0 (by decide) (hts _ (wg_t kw_302)) (fun _ h9 => h9) (cd := (1, 0, 8)) rfl dDA_readSecret_149 (fun v26 hv26 => ?_)
              obtain rfl := (show v26 = .int (nI 8) from hv26)
              refine mi_ge (tgt := 199) hx hb dDA_readSecret_152 (by decide) (by omega) (by omega) (fun h24 => absurd h24 (by omega)) (fun h24 => ?_)
              refine lv_aload_n hx hb dDA_readSecret_155 rfl (lv_at hl 2 rfl) ?_
              refine lv_aload_n hx hb dDA_readSecret_156 rfl (lv_at hl 2 rfl) ?_
              refine ty_get (ci := 6) (C := "LatticeKeys$Dsa") (TT := T_DA) (N := 17) (kd := (15, 0)) hx hb hts (wg_ft i_DA) hown hK hO k_h0 (nxg hc0 k_h0 rfl) hP (fun _ h9 => h9) rfl 6 (by decide) (hts _ (wg_t kw_171)) (fun _ h9 => h9) (cd := (3, 3, 8)) rfl dDA_readSecret_157 (fun v27 hv27 => ?_)
              obtain ⟨r23, rfl, kr23⟩ := (show ∃ r : Nat, v27 = .ref r ∧ T r = some (3, 8) from hv27)
              refine lv_iload hx hb dDA_readSecret_160 (lv_at hl 0 rfl) ?_
              refine ty_aald3 hx hb hK hO kr23 (nxg hc0 kr23 rfl) hP (by omega) (by decide) dDA_readSecret_162 (fun r24 kr24 => ?_)
              refine lv_bipush (v := nI 13) hx hb dDA_readSecret_163 (by decide) ?_
              refine lv_sipush (v := nI 4096) hx hb dDA_readSecret_165 (by decide) ?_
              refine lv_aload_n hx hb dDA_readSecret_168 rfl (lv_at hl 4 rfl) ?_
              refine lv_iload_n hx hb dDA_readSecret_169 rfl (lv_at hl 1 rfl) ?_
              refine mp_v (cx := []) (wr := []) hP hD hS hA [] [] rfl rfl rfl (by decide) (va_runV (As := [.ref r24, .int (nI 13), .int (nI 4096), .ref sk, .int (nI pz23)]) (rest := []) F (t_DA_readFlipped l g _ T xs pl hO hU hc0 h0 r24 sk 4896 13 pz23 (nI 4096) k_h0 kr24 k_sk (by omega) (by omega) (by omega)) (cwV 5 hts (wg_app (wg_c kw_1183 (wg_c kw_1185 (wg_c ks_35 (wg_c kw_5 wg_n)))) kw_1186) rfl rfl rfl (by decide +kernel) ⟨by decide, by decide⟩) (pp_VT (en_ok g) (ci := 6) (kd := (15, 0)) hK hO k_h0 (nxg hc0 k_h0 rfl) (fun _ h9 => ko1 h9) hP hD hS hA hE [] rfl rfl rfl) rfl rfl hl.1 rfl (lv_room (Nat.le_of_ble_eq_true rfl)) dDA_readSecret_170 ⟨by omega, by omega⟩) (fun  pl H locs hu22 hP hD hS => ?_)
              obtain ⟨hq22, hO⟩ := hu22
              have hP : va_P g.1 vcl ([] ++ pl) _ := hP
              have hD : va_D _ ([] ++ pl) := hD
              refine W.widen (k := 0) (n := 0) (by omega) (by omega) ?_
              refine lv_aload_n hx hb dDA_readSecret_173 rfl (lv_at hl 2 rfl) ?_
              refine ty_get (ci := 6) (C := "LatticeKeys$Dsa") (TT := T_DA) (N := 17) (kd := (15, 0)) hx hb hts (wg_ft i_DA) hown hK hO k_h0 (nxg hc0 k_h0 rfl) hP (fun _ h9 => h9) rfl 1 (by decide) (hts _ (wg_t kw_166)) (fun _ h9 => h9) (cd := (3, 12, 0)) rfl dDA_readSecret_174 (fun v28 hv28 => ?_)
              obtain ⟨r25, rfl, kr25⟩ := (show ∃ r : Nat, v28 = .ref r ∧ T r = some (12, 0) from hv28)
              refine lv_aload_n hx hb dDA_readSecret_177 rfl (lv_at hl 2 rfl) ?_
              refine ty_get (ci := 6) (C := "LatticeKeys$Dsa") (TT := T_DA) (N := 17) (kd := (15, 0)) hx hb hts (wg_ft i_DA) hown hK hO k_h0 (nxg hc0 k_h0 rfl) hP (fun _ h9 => h9) rfl 6 (by decide) (hts _ (wg_t kw_171)) (fun _ h9 => h9) (cd := (3, 3, 8)) rfl dDA_readSecret_178 (fun v29 hv29 => ?_)
              obtain ⟨r26, rfl, kr26⟩ := (show ∃ r : Nat, v29 = .ref r ∧ T r = some (3, 8) from hv29)
              refine lv_iload hx hb dDA_readSecret_181 (lv_at hl 0 rfl) ?_
              refine ty_aald3 hx hb hK hO kr26 (nxg hc0 kr26 rfl) hP (by omega) (by decide) dDA_readSecret_183 (fun r27 kr27 => ?_)
              refine mp_v (cx := []) (wr := []) hP hD hS hA [] [] rfl rfl rfl (by decide) (va_runV (As := [.ref r27]) (rest := []) F (t_RG_transform_12 l g _ T xs pl hO hU hc0 r25 r27 kr25 kr27) (cwV 1 hts (wg_app (wg_c kw_711 (wg_c kw_637 (wg_c kw_638 (wg_c kw_4 wg_n)))) kw_639) rfl rfl rfl (by decide +kernel) ⟨by decide, by decide⟩) (pp_VT (en_ok g) (ci := 4) (kd := (12, 0)) hK hO kr25 (nxg hc0 kr25 rfl) (fun _ h9 => ko1 h9) hP hD hS hA hE [] rfl rfl rfl) rfl rfl hl.1 rfl (lv_room (Nat.le_of_ble_eq_true rfl)) dDA_readSecret_184 ⟨by omega, by omega⟩) (fun  pl H locs hu23 hP hD hS => ?_)
              obtain ⟨hq23, hO⟩ := hu23
              have hP : va_P g.1 vcl ([] ++ pl) _ := hP
              have hD : va_D _ ([] ++ pl) := hD
              refine W.widen (k := 0) (n := 0) (by omega) (by omega) ?_
              refine mi_iincW (k := 1) (x := pz23) (d := 416) (y := pz23 + 416) (lv' := [(3, .int (nI (pz23 + 416))), (4, .int (nI i23)), (0, .ref h0), (1, .ref st), (2, .ref sk)]) hx hb dDA_readSecret_187 hl rfl (by decide) rfl (by decide) rfl (fun ls hl => ?_)
              refine mi_iinc (k := 1) (x := i23) (d := 1) (y := i23 + 1) (lv' := [(4, .int (nI (i23 + 1))), (3, .int (nI (pz23 + 416))), (0, .ref h0), (1, .ref st), (2, .ref sk)]) hx hb dDA_readSecret_193 hl rfl (by decide) rfl (by decide) rfl (fun ls hl => ?_)
              refine lv_goto (tgt := 146) hx hb dDA_readSecret_196 (by decide) ?_
              exact ih23 (i23 + 1) (pz23 + 416) pl ls H locs (by omega) (by omega) (lv_sub hl [0, 1, 2, 3, 4] rfl) hO hP hD hS
          exact lp23 8 0 pz22 pl ls _ _ (by omega) (by omega) (lv_sub hl [0, 1, 2, 3, 4] rfl) hO hP hD hS
        | succ n22 ih22 =>
          intro i22 pz22 pl ls H locs hm22 hi22 hl hO hP hD hS
          refine lv_iload hx hb dDA_readSecret_83 (lv_at hl 0 rfl) ?_
          refine lv_aload_n hx hb dDA_readSecret_85 rfl (lv_at hl 3 rfl) ?_
          refine ty_get (ci := 2) (C := "LatticeKeys$DsaSet") (TT := T_DS) (N := 17) (kd := (45, 0)) hx hb hts (wg_ft i_DS) hown hK hO k_st (nxg hc0 k_st rfl) hP (fun _ h9 => h9) rfl 0 (by decide) (hts _ (wg_t kw_302)) (fun _ h9 => h9) (cd := (1, 0, 8)) rfl dDA_readSecret_86 (fun v30 hv30 => ?_)
          obtain rfl := (show v30 = .int (nI 8) from hv30)
          refine mi_ge (tgt := 143) hx hb dDA_readSecret_89 (by decide) (by omega) (by omega) (fun h25 => absurd h25 (by omega)) (fun h25 => ?_)
          refine lv_aload_n hx hb dDA_readSecret_92 rfl (lv_at hl 2 rfl) ?_
          refine lv_aload_n hx hb dDA_readSecret_93 rfl (lv_at hl 2 rfl) ?_
          refine ty_get (ci := 6) (C := "LatticeKeys$Dsa") (TT := T_DA) (N := 17) (kd := (15, 0)) hx hb hts (wg_ft i_DA) hown hK hO k_h0 (nxg hc0 k_h0 rfl) hP (fun _ h9 => h9) rfl 5 (by decide) (hts _ (wg_t kw_170)) (fun _ h9 => h9) (cd := (3, 3, 8)) rfl dDA_readSecret_94 (fun v31 hv31 => ?_)
          obtain ⟨r28, rfl, kr28⟩ := (show ∃ r : Nat, v31 = .ref r ∧ T r = some (3, 8) from hv31)
          refine lv_iload hx hb dDA_readSecret_97 (lv_at hl 0 rfl) ?_
          refine ty_aald3 hx hb hK hO kr28 (nxg hc0 kr28 rfl) hP (by omega) (by decide) dDA_readSecret_99 (fun r29 kr29 => ?_)
          refine lv_aload_n hx hb dDA_readSecret_100 rfl (lv_at hl 3 rfl) ?_
          refine ty_get (ci := 2) (C := "LatticeKeys$DsaSet") (TT := T_DS) (N := 17) (kd := (45, 0)) hx hb hts (wg_ft i_DS) hown hK hO k_st (nxg hc0 k_st rfl) hP (fun _ h9 => h9) rfl 3 (by decide) (hts _ (wg_t kw_310)) (fun _ h9 => h9) (cd := (1, 0, 3)) rfl dDA_readSecret_101 (fun v32 hv32 => ?_)
          obtain rfl := (show v32 = .int (nI 3) from hv32)
          refine lv_aload_n hx hb dDA_readSecret_104 rfl (lv_at hl 3 rfl) ?_
          refine ty_get (ci := 2) (C := "LatticeKeys$DsaSet") (TT := T_DS) (N := 17) (kd := (45, 0)) hx hb hts (wg_ft i_DS) hown hK hO k_st (nxg hc0 k_st rfl) hP (fun _ h9 => h9) rfl 2 (by decide) (hts _ (wg_t kw_307)) (fun _ h9 => h9) (cd := (1, 0, 2)) rfl dDA_readSecret_105 (fun v33 hv33 => ?_)
          obtain rfl := (show v33 = .int (nI 2) from hv33)
          refine lv_aload_n hx hb dDA_readSecret_108 rfl (lv_at hl 4 rfl) ?_
          refine lv_iload_n hx hb dDA_readSecret_109 rfl (lv_at hl 1 rfl) ?_
          refine mp_v (cx := []) (wr := []) hP hD hS hA [] [] rfl rfl rfl (by decide) (va_runV (As := [.ref r29, .int (nI 3), .int (nI 2), .ref sk, .int (nI pz22)]) (rest := []) F (t_DA_readFlipped l g _ T xs pl hO hU hc0 h0 r29 sk 4896 3 pz22 (nI 2) k_h0 kr29 k_sk (by omega) (by omega) (by omega)) (cwV 5 hts (wg_app (wg_c kw_1183 (wg_c kw_1185 (wg_c ks_35 (wg_c kw_5 wg_n)))) kw_1186) rfl rfl rfl (by decide +kernel) ⟨by decide, by decide⟩) (pp_VT (en_ok g) (ci := 6) (kd := (15, 0)) hK hO k_h0 (nxg hc0 k_h0 rfl) (fun _ h9 => ko1 h9) hP hD hS hA hE [] rfl rfl rfl) rfl rfl hl.1 rfl (lv_room (Nat.le_of_ble_eq_true rfl)) dDA_readSecret_110 ⟨by omega, by omega⟩) (fun  pl H locs hu24 hP hD hS => ?_)
          obtain ⟨hq24, hO⟩ := hu24
          have hP : va_P g.1 vcl ([] ++ pl) _ := hP
          have hD : va_D _ ([] ++ pl) := hD
          refine W.widen (k := 0) (n := 0) (by omega) (by omega) ?_
          refine lv_aload_n hx hb dDA_readSecret_113 rfl (lv_at hl 2 rfl) ?_
          refine ty_get (ci := 6) (C := "LatticeKeys$Dsa") (TT := T_DA) (N := 17) (kd := (15, 0)) hx hb hts (wg_ft i_DA) hown hK hO k_h0 (nxg hc0 k_h0 rfl) hP (fun _ h9 => h9) rfl 1 (by decide) (hts _ (wg_t kw_166)) (fun _ h9 => h9) (cd := (3, 12, 0)) rfl dDA_readSecret_114 (fun v34 hv34 => ?_)
          obtain ⟨r30, rfl, kr30⟩ := (show ∃ r : Nat, v34 = .ref r ∧ T r = some (12, 0) from hv34)
          refine lv_aload_n hx hb dDA_readSecret_117 rfl (lv_at hl 2 rfl) ?_
          refine ty_get (ci := 6) (C := "LatticeKeys$Dsa") (TT := T_DA) (N := 17) (kd := (15, 0)) hx hb hts (wg_ft i_DA) hown hK hO k_h0 (nxg hc0 k_h0 rfl) hP (fun _ h9 => h9) rfl 5 (by decide) (hts _ (wg_t kw_170)) (fun _ h9 => h9) (cd := (3, 3, 8)) rfl dDA_readSecret_118 (fun v35 hv35 => ?_)
          obtain ⟨r31, rfl, kr31⟩ := (show ∃ r : Nat, v35 = .ref r ∧ T r = some (3, 8) from hv35)
          refine lv_iload hx hb dDA_readSecret_121 (lv_at hl 0 rfl) ?_
          refine ty_aald3 hx hb hK hO kr31 (nxg hc0 kr31 rfl) hP (by omega) (by decide) dDA_readSecret_123 (fun r32 kr32 => ?_)
          refine mp_v (cx := []) (wr := []) hP hD hS hA [] [] rfl rfl rfl (by decide) (va_runV (As := [.ref r32]) (rest := []) F (t_RG_transform_12 l g _ T xs pl hO hU hc0 r30 r32 kr30 kr32) (cwV 1 hts (wg_app (wg_c kw_711 (wg_c kw_637 (wg_c kw_638 (wg_c kw_4 wg_n)))) kw_639) rfl rfl rfl (by decide +kernel) ⟨by decide, by decide⟩) (pp_VT (en_ok g) (ci := 4) (kd := (12, 0)) hK hO kr30 (nxg hc0 kr30 rfl) (fun _ h9 => ko1 h9) hP hD hS hA hE [] rfl rfl rfl) rfl rfl hl.1 rfl (lv_room (Nat.le_of_ble_eq_true rfl)) dDA_readSecret_124 ⟨by omega, by omega⟩) (fun  pl H locs hu25 hP hD hS => ?_)
          obtain ⟨hq25, hO⟩ := hu25
          have hP : va_P g.1 vcl ([] ++ pl) _ := hP
          have hD : va_D _ ([] ++ pl) := hD
          refine W.widen (k := 0) (n := 0) (by omega) (by omega) ?_
          refine lv_iload_n hx hb dDA_readSecret_127 rfl (lv_at hl 1 rfl) ?_
          refine lv_bipush (v := nI 32) hx hb dDA_readSecret_128 (by decide) ?_
          refine lv_aload_n hx hb dDA_readSecret_130 rfl (lv_at hl 3 rfl) ?_
          refine ty_get (ci := 2) (C := "LatticeKeys$DsaSet") (TT := T_DS) (N := 17) (kd := (45, 0)) hx hb hts (wg_ft i_DS) hown hK hO k_st (nxg hc0 k_st rfl) hP (fun _ h9 => h9) rfl 3 (by decide) (hts _ (wg_t kw_310)) (fun _ h9 => h9) (cd := (1, 0, 3)) rfl dDA_readSecret_131 (fun v36 hv36 => ?_)
          obtain rfl := (show v36 = .int (nI 3) from hv36)
          refine mi_imul hx hb dDA_readSecret_134 ?_
          refine mi_as (show nI (32 * 3) = nI 96 from rfl) ?_
          refine mi_iadd hx hb dDA_readSecret_135 ?_
          refine lv_istore_n (lv' := [(3, .int (nI (pz22 + 96))), (4, .int (nI i22)), (0, .ref h0), (1, .ref st), (2, .ref sk)]) hx hb dDA_readSecret_136 rfl hl (by decide) rfl (fun ls hl => ?_)
          refine mi_iinc (k := 1) (x := i22) (d := 1) (y := i22 + 1) (lv' := [(4, .int (nI (i22 + 1))), (3, .int (nI (pz22 + 96))), (0, .ref h0), (1, .ref st), (2, .ref sk)]) hx hb dDA_readSecret_137 hl rfl (by decide) rfl (by decide) rfl (fun ls hl => ?_)
          refine lv_goto (tgt := 83) hx hb dDA_readSecret_140 (by decide) ?_
          exact ih22 (i22 + 1) (pz22 + 96) pl ls H locs (by omega) (by omega) (lv_sub hl [0, 1, 2, 3, 4] rfl) hO hP hD hS
      exact lp22 8 0 pz21 pl ls _ _ (by omega) (by omega) (lv_sub hl [0, 1, 2, 3, 4] rfl) hO hP hD hS
    | succ n21 ih21 =>
      intro i21 pz21 pl ls H locs hm21 hi21 hl hO hP hD hS
      refine lv_iload hx hb dDA_readSecret_20 (lv_at hl 0 rfl) ?_
      refine lv_aload_n hx hb dDA_readSecret_22 rfl (lv_at hl 3 rfl) ?_
      refine ty_get (ci := 2) (C := "LatticeKeys$DsaSet") (TT := T_DS) (N := 17) (kd := (45, 0)) hx hb hts (wg_ft i_DS) hown hK hO k_st (nxg hc0 k_st rfl) hP (fun _ h9 => h9) rfl 1 (by decide) (hts _ (wg_t kw_305)) (fun _ h9 => h9) (cd := (1, 0, 7)) rfl dDA_readSecret_23 (fun v37 hv37 => ?_)
      obtain rfl := (show v37 = .int (nI 7) from hv37)
      refine mi_ge (tgt := 80) hx hb dDA_readSecret_26 (by decide) (by omega) (by omega) (fun h26 => absurd h26 (by omega)) (fun h26 => ?_)
      refine lv_aload_n hx hb dDA_readSecret_29 rfl (lv_at hl 2 rfl) ?_
      refine lv_aload_n hx hb dDA_readSecret_30 rfl (lv_at hl 2 rfl) ?_
      refine ty_get (ci := 6) (C := "LatticeKeys$Dsa") (TT := T_DA) (N := 17) (kd := (15, 0)) hx hb hts (wg_ft i_DA) hown hK hO k_h0 (nxg hc0 k_h0 rfl) hP (fun _ h9 => h9) rfl 4 (by decide) (hts _ (wg_t kw_169)) (fun _ h9 => h9) (cd := (3, 3, 7)) rfl dDA_readSecret_31 (fun v38 hv38 => ?_)
      obtain ⟨r33, rfl, kr33⟩ := (show ∃ r : Nat, v38 = .ref r ∧ T r = some (3, 7) from hv38)
      refine lv_iload hx hb dDA_readSecret_34 (lv_at hl 0 rfl) ?_
      refine ty_aald3 hx hb hK hO kr33 (nxg hc0 kr33 rfl) hP (by omega) (by decide) dDA_readSecret_36 (fun r34 kr34 => ?_)
      refine lv_aload_n hx hb dDA_readSecret_37 rfl (lv_at hl 3 rfl) ?_
      refine ty_get (ci := 2) (C := "LatticeKeys$DsaSet") (TT := T_DS) (N := 17) (kd := (45, 0)) hx hb hts (wg_ft i_DS) hown hK hO k_st (nxg hc0 k_st rfl) hP (fun _ h9 => h9) rfl 3 (by decide) (hts _ (wg_t kw_310)) (fun _ h9 => h9) (cd := (1, 0, 3)) rfl dDA_readSecret_38 (fun v39 hv39 => ?_)
      obtain rfl := (show v39 = .int (nI 3) from hv39)
      refine lv_aload_n hx hb dDA_readSecret_41 rfl (lv_at hl 3 rfl) ?_
      refine ty_get (ci := 2) (C := "LatticeKeys$DsaSet") (TT := T_DS) (N := 17) (kd := (45, 0)) hx hb hts (wg_ft i_DS) hown hK hO k_st (nxg hc0 k_st rfl) hP (fun _ h9 => h9) rfl 2 (by decide) (hts _ (wg_t kw_307)) (fun _ h9 => h9) (cd := (1, 0, 2)) rfl dDA_readSecret_42 (fun v40 hv40 => ?_)
      obtain rfl := (show v40 = .int (nI 2) from hv40)
      refine lv_aload_n hx hb dDA_readSecret_45 rfl (lv_at hl 4 rfl) ?_
      refine lv_iload_n hx hb dDA_readSecret_46 rfl (lv_at hl 1 rfl) ?_
      refine mp_v (cx := []) (wr := []) hP hD hS hA [] [] rfl rfl rfl (by decide) (va_runV (As := [.ref r34, .int (nI 3), .int (nI 2), .ref sk, .int (nI pz21)]) (rest := []) F (t_DA_readFlipped l g _ T xs pl hO hU hc0 h0 r34 sk 4896 3 pz21 (nI 2) k_h0 kr34 k_sk (by omega) (by omega) (by omega)) (cwV 5 hts (wg_app (wg_c kw_1183 (wg_c kw_1185 (wg_c ks_35 (wg_c kw_5 wg_n)))) kw_1186) rfl rfl rfl (by decide +kernel) ⟨by decide, by decide⟩) (pp_VT (en_ok g) (ci := 6) (kd := (15, 0)) hK hO k_h0 (nxg hc0 k_h0 rfl) (fun _ h9 => ko1 h9) hP hD hS hA hE [] rfl rfl rfl) rfl rfl hl.1 rfl (lv_room (Nat.le_of_ble_eq_true rfl)) dDA_readSecret_47 ⟨by omega, by omega⟩) (fun  pl H locs hu26 hP hD hS => ?_)
      obtain ⟨hq26, hO⟩ := hu26
      have hP : va_P g.1 vcl ([] ++ pl) _ := hP
      have hD : va_D _ ([] ++ pl) := hD
      refine W.widen (k := 0) (n := 0) (by omega) (by omega) ?_
      refine lv_aload_n hx hb dDA_readSecret_50 rfl (lv_at hl 2 rfl) ?_
      refine ty_get (ci := 6) (C := "LatticeKeys$Dsa") (TT := T_DA) (N := 17) (kd := (15, 0)) hx hb hts (wg_ft i_DA) hown hK hO k_h0 (nxg hc0 k_h0 rfl) hP (fun _ h9 => h9) rfl 1 (by decide) (hts _ (wg_t kw_166)) (fun _ h9 => h9) (cd := (3, 12, 0)) rfl dDA_readSecret_51 (fun v41 hv41 => ?_)
      obtain ⟨r35, rfl, kr35⟩ := (show ∃ r : Nat, v41 = .ref r ∧ T r = some (12, 0) from hv41)
      refine lv_aload_n hx hb dDA_readSecret_54 rfl (lv_at hl 2 rfl) ?_
      refine ty_get (ci := 6) (C := "LatticeKeys$Dsa") (TT := T_DA) (N := 17) (kd := (15, 0)) hx hb hts (wg_ft i_DA) hown hK hO k_h0 (nxg hc0 k_h0 rfl) hP (fun _ h9 => h9) rfl 4 (by decide) (hts _ (wg_t kw_169)) (fun _ h9 => h9) (cd := (3, 3, 7)) rfl dDA_readSecret_55 (fun v42 hv42 => ?_)
      obtain ⟨r36, rfl, kr36⟩ := (show ∃ r : Nat, v42 = .ref r ∧ T r = some (3, 7) from hv42)
      refine lv_iload hx hb dDA_readSecret_58 (lv_at hl 0 rfl) ?_
      refine ty_aald3 hx hb hK hO kr36 (nxg hc0 kr36 rfl) hP (by omega) (by decide) dDA_readSecret_60 (fun r37 kr37 => ?_)
      refine mp_v (cx := []) (wr := []) hP hD hS hA [] [] rfl rfl rfl (by decide) (va_runV (As := [.ref r37]) (rest := []) F (t_RG_transform_12 l g _ T xs pl hO hU hc0 r35 r37 kr35 kr37) (cwV 1 hts (wg_app (wg_c kw_711 (wg_c kw_637 (wg_c kw_638 (wg_c kw_4 wg_n)))) kw_639) rfl rfl rfl (by decide +kernel) ⟨by decide, by decide⟩) (pp_VT (en_ok g) (ci := 4) (kd := (12, 0)) hK hO kr35 (nxg hc0 kr35 rfl) (fun _ h9 => ko1 h9) hP hD hS hA hE [] rfl rfl rfl) rfl rfl hl.1 rfl (lv_room (Nat.le_of_ble_eq_true rfl)) dDA_readSecret_61 ⟨by omega, by omega⟩) (fun  pl H locs hu27 hP hD hS => ?_)
      obtain ⟨hq27, hO⟩ := hu27
      have hP : va_P g.1 vcl ([] ++ pl) _ := hP
      have hD : va_D _ ([] ++ pl) := hD
      refine W.widen (k := 0) (n := 0) (by omega) (by omega) ?_
      refine lv_iload_n hx hb dDA_readSecret_64 rfl (lv_at hl 1 rfl) ?_
      refine lv_bipush (v := nI 32) hx hb dDA_readSecret_65 (by decide) ?_
      refine lv_aload_n hx hb dDA_readSecret_67 rfl (lv_at hl 3 rfl) ?_
      refine ty_get (ci := 2) (C := "LatticeKeys$DsaSet") (TT := T_DS) (N := 17) (kd := (45, 0)) hx hb hts (wg_ft i_DS) hown hK hO k_st (nxg hc0 k_st rfl) hP (fun _ h9 => h9) rfl 3 (by decide) (hts _ (wg_t kw_310)) (fun _ h9 => h9) (cd := (1, 0, 3)) rfl dDA_readSecret_68 (fun v43 hv43 => ?_)
      obtain rfl := (show v43 = .int (nI 3) from hv43)
      refine mi_imul hx hb dDA_readSecret_71 ?_
      refine mi_as (show nI (32 * 3) = nI 96 from rfl) ?_
      refine mi_iadd hx hb dDA_readSecret_72 ?_
      refine lv_istore_n (lv' := [(3, .int (nI (pz21 + 96))), (4, .int (nI i21)), (0, .ref h0), (1, .ref st), (2, .ref sk)]) hx hb dDA_readSecret_73 rfl hl (by decide) rfl (fun ls hl => ?_)
      refine mi_iinc (k := 1) (x := i21) (d := 1) (y := i21 + 1) (lv' := [(4, .int (nI (i21 + 1))), (3, .int (nI (pz21 + 96))), (0, .ref h0), (1, .ref st), (2, .ref sk)]) hx hb dDA_readSecret_74 hl rfl (by decide) rfl (by decide) rfl (fun ls hl => ?_)
      refine lv_goto (tgt := 20) hx hb dDA_readSecret_77 (by decide) ?_
      exact ih21 (i21 + 1) (pz21 + 96) pl ls H locs (by omega) (by omega) (lv_sub hl [0, 1, 2, 3, 4] rfl) hO hP hD hS
  exact lp21 7 0 128 pl ls _ _ (by omega) (by omega) (lv_sub hl [0, 1, 2, 3, 4] rfl) hO hP hD hS
set_option maxHeartbeats 400000 in
set_option maxRecDepth 100000 in
theorem t_DA_writeSmallVectors_0 (l : Launch) (g : Gd) (sz : Nat) (T : Ty) (xs : List Nat) (pl : va_W) (hO : okx g T xs pl) (hU : uni T) (hc0 : clo T xs 0) (hc4 : clo T xs 4) (h0 st sk : Nat) (k_h0 : T h0 = some (15, 0)) (k_st : T st = some (43, 0)) (k_sk : T sk = some (1, 2560))  : Met l y_DA_writeSmallVectors w_DA_writeSmallVectors ({ frames := 5, cells := 0, slots := 0, locals := 151 } : Room) (va_Pc [.ref h0, .ref st, .ref sk] (pr (en g) g.1 vcl sz ([] ++ pl))) (va_Qv (fun (u : va_W) => (True) ∧ okx g T xs u) (po g.1 vcl (va_A ([] ++ pl) sz) (fun (u : va_W) => [] ++ u)) (va_A ([] ++ pl) sz)) 0 0 (va_A ([] ++ pl) sz) := by
  refine mc_entry (cc := c_DA_writeSmallVectors) (maxL := 6) (ret := none) (by decide) rfl (Nat.le_of_ble_eq_true rfl) ?_
  intro p e s m args below meth c ls F hr hlk hnm hsz hP hD hE hA hl
  obtain ⟨hx, hb, hml, hown, hts⟩ := id F
  have hK := hE.1
  generalize va_A ([] ++ pl) sz = A at hD hE hA ⊢
  have hS : va_S A s.heap s.heap [] := va_S.rf
  have hl : lv_has ls 6 [(0, .ref h0), (1, .ref st), (2, .ref sk)] := hl
  refine lv_bipush (v := nI 32) hx hb dDA_writeSmallVectors_0 (by decide) ?_
  refine lv_aload_n hx hb dDA_writeSmallVectors_2 rfl (lv_at hl 1 rfl) ?_
  refine ty_get (ci := 2) (C := "LatticeKeys$DsaSet") (TT := T_DS) (N := 17) (kd := (43, 0)) hx hb hts (wg_ft i_DS) hown hK hO k_st (nxg hc0 k_st rfl) hP (fun _ h9 => h9) rfl 3 (by decide) (hts _ (wg_t kw_310)) (fun _ h9 => h9) (cd := (1, 0, 3)) rfl dDA_writeSmallVectors_3 (fun v21 hv21 => ?_)
  obtain rfl := (show v21 = .int (nI 3) from hv21)
  refine mi_imul hx hb dDA_writeSmallVectors_6 ?_
  refine mi_as (show nI (32 * 3) = nI 96 from rfl) ?_
  refine lv_istore_n (lv' := [(3, .int (nI 96)), (0, .ref h0), (1, .ref st), (2, .ref sk)]) hx hb dDA_writeSmallVectors_7 rfl hl (by decide) rfl (fun ls hl => ?_)
  refine lv_iconst (v := nI 0) hx hb dDA_writeSmallVectors_8 (by decide) ?_
  refine lv_istore (lv' := [(4, .int (nI 0)), (3, .int (nI 96)), (0, .ref h0), (1, .ref st), (2, .ref sk)]) hx hb dDA_writeSmallVectors_9 hl (by decide) rfl (fun ls hl => ?_)
  have lp21 : ∀ (n21 : Nat) (i21 : Nat) (pl : va_W) (ls : Array Slot) (H : Heap) (locs : List Loc), n21 + i21 = 8 → lv_has ls 6 [(4, .int (nI i21)), (3, .int (nI 96)), (0, .ref h0), (1, .ref st), (2, .ref sk)] → okx g T xs pl → va_P g.1 vcl ([] ++ pl) H → va_D A ([] ++ pl) → va_S A s.heap H locs → W p l e ({ frames := 5, cells := 0, slots := 0, locals := 151 } : Room) s m args below meth c H locs 0 0 (MQ below (va_Qv (fun (u : va_W) => (True) ∧ okx g T xs u) (po g.1 vcl A (fun (u : va_W) => [] ++ u)) A) args s 0 0 A) (F0 m 11 ls []) := by
    intro n21
    induction n21 with
    | zero =>
      intro i21 pl ls H locs hm21  hl hO hP hD hS
      refine lv_iload hx hb dDA_writeSmallVectors_11 (lv_at hl 0 rfl) ?_
      refine lv_aload_n hx hb dDA_writeSmallVectors_13 rfl (lv_at hl 3 rfl) ?_
      refine ty_get (ci := 2) (C := "LatticeKeys$DsaSet") (TT := T_DS) (N := 17) (kd := (43, 0)) hx hb hts (wg_ft i_DS) hown hK hO k_st (nxg hc0 k_st rfl) hP (fun _ h9 => h9) rfl 1 (by decide) (hts _ (wg_t kw_305)) (fun _ h9 => h9) (cd := (1, 0, 4)) rfl dDA_writeSmallVectors_14 (fun v22 hv22 => ?_)
      obtain rfl := (show v22 = .int (nI 4) from hv22)
      refine lv_aload_n hx hb dDA_writeSmallVectors_17 rfl (lv_at hl 3 rfl) ?_
      refine ty_get (ci := 2) (C := "LatticeKeys$DsaSet") (TT := T_DS) (N := 17) (kd := (43, 0)) hx hb hts (wg_ft i_DS) hown hK hO k_st (nxg hc0 k_st rfl) hP (fun _ h9 => h9) rfl 0 (by decide) (hts _ (wg_t kw_302)) (fun _ h9 => h9) (cd := (1, 0, 4)) rfl dDA_writeSmallVectors_18 (fun v23 hv23 => ?_)
      obtain rfl := (show v23 = .int (nI 4) from hv23)
      refine mi_iadd hx hb dDA_writeSmallVectors_21 ?_
      refine mi_as (show nI (4 + 4) = nI 8 from rfl) ?_
      refine mi_ge (tgt := 119) hx hb dDA_writeSmallVectors_22 (by decide) (by omega) (by omega) (fun h21 => ?_) (fun h21 => absurd h21 (by omega))
      exact mp_vret hx hb hr hlk hP hD hS pl ⟨trivial, hO⟩ [] rfl rfl rfl (by omega) (by omega) dDA_writeSmallVectors_119
    | succ n21 ih21 =>
      intro i21 pl ls H locs hm21  hl hO hP hD hS
      refine lv_iload hx hb dDA_writeSmallVectors_11 (lv_at hl 0 rfl) ?_
      refine lv_aload_n hx hb dDA_writeSmallVectors_13 rfl (lv_at hl 3 rfl) ?_
      refine ty_get (ci := 2) (C := "LatticeKeys$DsaSet") (TT := T_DS) (N := 17) (kd := (43, 0)) hx hb hts (wg_ft i_DS) hown hK hO k_st (nxg hc0 k_st rfl) hP (fun _ h9 => h9) rfl 1 (by decide) (hts _ (wg_t kw_305)) (fun _ h9 => h9) (cd := (1, 0, 4)) rfl dDA_writeSmallVectors_14 (fun v24 hv24 => ?_)
      obtain rfl := (show v24 = .int (nI 4) from hv24)
      refine lv_aload_n hx hb dDA_writeSmallVectors_17 rfl (lv_at hl 3 rfl) ?_
      refine ty_get (ci := 2) (C := "LatticeKeys$DsaSet") (TT := T_DS) (N := 17) (kd := (43, 0)) hx hb hts (wg_ft i_DS) hown hK hO k_st (nxg hc0 k_st rfl) hP (fun _ h9 => h9) rfl 0 (by decide) (hts _ (wg_t kw_302)) (fun _ h9 => h9) (cd := (1, 0, 4)) rfl dDA_writeSmallVectors_18 (fun v25 hv25 => ?_)
      obtain rfl := (show v25 = .int (nI 4) from hv25)
      refine mi_iadd hx hb dDA_writeSmallVectors_21 ?_
      refine mi_as (show nI (4 + 4) = nI 8 from rfl) ?_
      refine mi_ge (tgt := 119) hx hb dDA_writeSmallVectors_22 (by decide) (by omega) (by omega) (fun h22 => absurd h22 (by omega)) (fun h22 => ?_)
      refine lv_iload hx hb dDA_writeSmallVectors_25 (lv_at hl 0 rfl) ?_
      refine lv_aload_n hx hb dDA_writeSmallVectors_27 rfl (lv_at hl 3 rfl) ?_
      refine ty_get (ci := 2) (C := "LatticeKeys$DsaSet") (TT := T_DS) (N := 17) (kd := (43, 0)) hx hb hts (wg_ft i_DS) hown hK hO k_st (nxg hc0 k_st rfl) hP (fun _ h9 => h9) rfl 1 (by decide) (hts _ (wg_t kw_305)) (fun _ h9 => h9) (cd := (1, 0, 4)) rfl dDA_writeSmallVectors_28 (fun v26 hv26 => ?_)
      obtain rfl := (show v26 = .int (nI 4) from hv26)
      refine mi_ge (tgt := 44) hx hb dDA_writeSmallVectors_31 (by decide) (by omega) (by omega) (fun h23 => ?_) (fun h23 => ?_)
      · refine lv_aload_n hx hb dDA_writeSmallVectors_44 rfl (lv_at hl 2 rfl) ?_
        refine ty_get (ci := 6) (C := "LatticeKeys$Dsa") (TT := T_DA) (N := 17) (kd := (15, 0)) hx hb hts (wg_ft i_DA) hown hK hO k_h0 (nxg hc0 k_h0 rfl) hP (fun _ h9 => h9) rfl 5 (by decide) (hts _ (wg_t kw_170)) (fun _ h9 => h9) (cd := (3, 3, 8)) rfl dDA_writeSmallVectors_45 (fun v27 hv27 => ?_)
        obtain ⟨r21, rfl, kr21⟩ := (show ∃ r : Nat, v27 = .ref r ∧ T r = some (3, 8) from hv27)
        refine lv_iload hx hb dDA_writeSmallVectors_48 (lv_at hl 0 rfl) ?_
        refine lv_aload_n hx hb dDA_writeSmallVectors_50 rfl (lv_at hl 3 rfl) ?_
        refine ty_get (ci := 2) (C := "LatticeKeys$DsaSet") (TT := T_DS) (N := 17) (kd := (43, 0)) hx hb hts (wg_ft i_DS) hown hK hO k_st (nxg hc0 k_st rfl) hP (fun _ h9 => h9) rfl 1 (by decide) (hts _ (wg_t kw_305)) (fun _ h9 => h9) (cd := (1, 0, 4)) rfl dDA_writeSmallVectors_51 (fun v28 hv28 => ?_)
        obtain rfl := (show v28 = .int (nI 4) from hv28)
        refine mi_isub hx hb dDA_writeSmallVectors_54 (by omega) ?_
        refine ty_aald3 hx hb hK hO kr21 (nxg hc0 kr21 rfl) hP (by omega) (by decide) dDA_writeSmallVectors_55 (fun r22 kr22 => ?_)
        refine lv_astore (lv' := [(5, .ref r22), (4, .int (nI i21)), (3, .int (nI 96)), (0, .ref h0), (1, .ref st), (2, .ref sk)]) hx hb dDA_writeSmallVectors_56 hl (by decide) rfl (fun ls hl => ?_)
        refine lv_aload_n hx hb dDA_writeSmallVectors_58 rfl (lv_at hl 3 rfl) ?_
        refine ty_get (ci := 6) (C := "LatticeKeys$Dsa") (TT := T_DA) (N := 17) (kd := (15, 0)) hx hb hts (wg_ft i_DA) hown hK hO k_h0 (nxg hc0 k_h0 rfl) hP (fun _ h9 => h9) rfl 2 (by decide) (hts _ (wg_t kw_167)) (fun _ h9 => h9) (cd := (3, 14, 0)) rfl dDA_writeSmallVectors_59 (fun v29 hv29 => ?_)
        obtain ⟨r23, rfl, kr23⟩ := (show ∃ r : Nat, v29 = .ref r ∧ T r = some (14, 0) from hv29)
        refine lv_aload_n hx hb dDA_writeSmallVectors_62 rfl (lv_at hl 4 rfl) ?_
        refine lv_aload hx hb dDA_writeSmallVectors_63 (lv_at hl 0 rfl) ?_
        refine lv_aload_n hx hb dDA_writeSmallVectors_65 rfl (lv_at hl 3 rfl) ?_
        refine ty_get (ci := 6) (C := "LatticeKeys$Dsa") (TT := T_DA) (N := 17) (kd := (15, 0)) hx hb hts (wg_ft i_DA) hown hK hO k_h0 (nxg hc0 k_h0 rfl) hP (fun _ h9 => h9) rfl 11 (by decide) (hts _ (wg_t kw_176)) (fun _ h9 => h9) (cd := (3, 1, 128)) rfl dDA_writeSmallVectors_66 (fun v30 hv30 => ?_)
        obtain ⟨r24, rfl, kr24⟩ := (show ∃ r : Nat, v30 = .ref r ∧ T r = some (1, 128) from hv30)
        refine lv_bipush (v := nI 32) hx hb dDA_writeSmallVectors_69 (by decide) ?_
        refine lv_iload hx hb dDA_writeSmallVectors_71 (lv_at hl 1 rfl) ?_
        refine mp_v (cx := []) (wr := []) hP hD hS hA [] [] rfl rfl rfl (by decide) (va_runV (As := [.ref st, .ref r22, .ref r24, .int (nI 32), .int (nI i21)]) (rest := []) F (t_SA_sampleSmall_0 l g _ T xs pl hO hU hc0 hc4 r23 st r22 r24 128 32 (nI i21) kr23 k_st kr22 kr24 (by omega) (by omega)) (cwV 5 hts (wg_app (wg_c kw_679 (wg_c kw_680 (wg_c kw_681 (wg_c kw_6 wg_n)))) kw_682) rfl rfl rfl (by decide +kernel) ⟨by decide, by decide⟩) (pp_VT (en_ok g) (ci := 7) (kd := (14, 0)) hK hO kr23 (nxg hc0 kr23 rfl) (fun _ h9 => ko1 h9) hP hD hS hA hE [] rfl rfl rfl) rfl rfl hl.1 rfl (lv_room (Nat.le_of_ble_eq_true rfl)) dDA_writeSmallVectors_73 ⟨by omega, by omega⟩) (fun  pl H locs hu21 hP hD hS => ?_)
        obtain ⟨hq21, hO⟩ := hu21
        have hP : va_P g.1 vcl ([] ++ pl) _ := hP
        have hD : va_D _ ([] ++ pl) := hD
        refine W.widen (k := 0) (n := 0) (by omega) (by omega) ?_
        refine lv_aload_n hx hb dDA_writeSmallVectors_76 rfl (lv_at hl 3 rfl) ?_
        refine ty_get (ci := 6) (C := "LatticeKeys$Dsa") (TT := T_DA) (N := 17) (kd := (15, 0)) hx hb hts (wg_ft i_DA) hown hK hO k_h0 (nxg hc0 k_h0 rfl) hP (fun _ h9 => h9) rfl 1 (by decide) (hts _ (wg_t kw_166)) (fun _ h9 => h9) (cd := (3, 12, 0)) rfl dDA_writeSmallVectors_77 (fun v31 hv31 => ?_)
        obtain ⟨r25, rfl, kr25⟩ := (show ∃ r : Nat, v31 = .ref r ∧ T r = some (12, 0) from hv31)
        refine lv_aload hx hb dDA_writeSmallVectors_80 (lv_at hl 0 rfl) ?_
        refine lv_aload_n hx hb dDA_writeSmallVectors_82 rfl (lv_at hl 4 rfl) ?_
        refine ty_get (ci := 2) (C := "LatticeKeys$DsaSet") (TT := T_DS) (N := 17) (kd := (43, 0)) hx hb hts (wg_ft i_DS) hown hK hO k_st (nxg hc0 k_st rfl) hP (fun _ h9 => h9) rfl 2 (by decide) (hts _ (wg_t kw_307)) (fun _ h9 => h9) (cd := (1, 0, 2)) rfl dDA_writeSmallVectors_83 (fun v32 hv32 => ?_)
        obtain rfl := (show v32 = .int (nI 2) from hv32)
        refine lv_aload_n hx hb dDA_writeSmallVectors_86 rfl (lv_at hl 3 rfl) ?_
        refine ty_get (ci := 6) (C := "LatticeKeys$Dsa") (TT := T_DA) (N := 17) (kd := (15, 0)) hx hb hts (wg_ft i_DA) hown hK hO k_h0 (nxg hc0 k_h0 rfl) hP (fun _ h9 => h9) rfl 10 (by decide) (hts _ (wg_t kw_175)) (fun _ h9 => h9) (cd := (3, 0, 256)) rfl dDA_writeSmallVectors_87 (fun v33 hv33 => ?_)
        obtain ⟨r26, rfl, kr26⟩ := (show ∃ r : Nat, v33 = .ref r ∧ T r = some (0, 256) from hv33)
        refine mp_v (cx := []) (wr := []) hP hD hS hA [] [] rfl rfl rfl (by decide) (va_runV (As := [.ref r22, .int (nI 2), .ref r26]) (rest := []) F (t_RG_flip_12 l g _ T xs pl hO hU hc0 r25 r22 r26 (nI 2) kr25 kr22 kr26) (cwV 3 hts (wg_app (wg_c kw_698 (wg_c kw_699 (wg_c kw_700 (wg_c kw_4 wg_n)))) kw_701) rfl rfl rfl (by decide +kernel) ⟨by decide, by decide⟩) (pp_VT (en_ok g) (ci := 4) (kd := (12, 0)) hK hO kr25 (nxg hc0 kr25 rfl) (fun _ h9 => ko1 h9) hP hD hS hA hE [] rfl rfl rfl) rfl rfl hl.1 rfl (lv_room (Nat.le_of_ble_eq_true rfl)) dDA_writeSmallVectors_90 ⟨by omega, by omega⟩) (fun  pl H locs hu22 hP hD hS => ?_)
        obtain ⟨hq22, hO⟩ := hu22
        have hP : va_P g.1 vcl ([] ++ pl) _ := hP
        have hD : va_D _ ([] ++ pl) := hD
        refine W.widen (k := 0) (n := 0) (by omega) (by omega) ?_
        refine lv_aload_n hx hb dDA_writeSmallVectors_93 rfl (lv_at hl 3 rfl) ?_
        refine ty_get (ci := 6) (C := "LatticeKeys$Dsa") (TT := T_DA) (N := 17) (kd := (15, 0)) hx hb hts (wg_ft i_DA) hown hK hO k_h0 (nxg hc0 k_h0 rfl) hP (fun _ h9 => h9) rfl 10 (by decide) (hts _ (wg_t kw_175)) (fun _ h9 => h9) (cd := (3, 0, 256)) rfl dDA_writeSmallVectors_94 (fun v34 hv34 => ?_)
        obtain ⟨r27, rfl, kr27⟩ := (show ∃ r : Nat, v34 = .ref r ∧ T r = some (0, 256) from hv34)
        refine lv_aload_n hx hb dDA_writeSmallVectors_97 rfl (lv_at hl 4 rfl) ?_
        refine ty_get (ci := 2) (C := "LatticeKeys$DsaSet") (TT := T_DS) (N := 17) (kd := (43, 0)) hx hb hts (wg_ft i_DS) hown hK hO k_st (nxg hc0 k_st rfl) hP (fun _ h9 => h9) rfl 3 (by decide) (hts _ (wg_t kw_310)) (fun _ h9 => h9) (cd := (1, 0, 3)) rfl dDA_writeSmallVectors_98 (fun v35 hv35 => ?_)
        obtain rfl := (show v35 = .int (nI 3) from hv35)
        refine lv_aload_n hx hb dDA_writeSmallVectors_101 rfl (lv_at hl 5 rfl) ?_
        refine lv_sipush (v := nI 128) hx hb dDA_writeSmallVectors_102 (by decide) ?_
        refine lv_iload_n hx hb dDA_writeSmallVectors_105 rfl (lv_at hl 2 rfl) ?_
        refine lv_iload hx hb dDA_writeSmallVectors_106 (lv_at hl 1 rfl) ?_
        refine mi_imul hx hb dDA_writeSmallVectors_108 ?_
        refine mi_iadd hx hb dDA_writeSmallVectors_109 ?_
        refine mp_v (cx := []) (wr := []) hP hD hS hA [] [] rfl rfl rfl (by decide) (va_runS (As := [.ref r27, .int (nI 3), .ref sk, .int (nI (128 + (96 * i21)))]) (rest := []) F (t_BT_pack l g _ T xs pl hO hU hc0 r27 sk 2560 3 (128 + (96 * i21)) kr27 k_sk (by omega) (by omega) (by omega)) (va_cwS 4 hts (wg_app (wg_c kw_702 (wg_c kw_645 (wg_c kw_22 wg_n))) kw_646) rfl rfl rfl (by decide +kernel) ⟨by decide, by decide⟩) (pp_S (en_ok g) hP hD hS hA hE [] rfl rfl) rfl rfl hl.1 rfl (lv_room (Nat.le_of_ble_eq_true rfl)) dDA_writeSmallVectors_110 ⟨by omega, by omega⟩) (fun  pl H locs hu23 hP hD hS => ?_)
        obtain ⟨hq23, hO⟩ := hu23
        have hP : va_P g.1 vcl ([] ++ pl) _ := hP
        have hD : va_D _ ([] ++ pl) := hD
        refine W.widen (k := 0) (n := 0) (by omega) (by omega) ?_
        refine mi_iinc (k := 1) (x := i21) (d := 1) (y := i21 + 1) (lv' := [(4, .int (nI (i21 + 1))), (5, .ref r22), (3, .int (nI 96)), (0, .ref h0), (1, .ref st), (2, .ref sk)]) hx hb dDA_writeSmallVectors_113 hl rfl (by decide) rfl (by decide) rfl (fun ls hl => ?_)
        refine lv_goto (tgt := 11) hx hb dDA_writeSmallVectors_116 (by decide) ?_
        exact ih21 (i21 + 1) pl ls H locs (by omega) (lv_sub hl [0, 2, 3, 4, 5] rfl) hO hP hD hS
      · refine lv_aload_n hx hb dDA_writeSmallVectors_34 rfl (lv_at hl 2 rfl) ?_
        refine ty_get (ci := 6) (C := "LatticeKeys$Dsa") (TT := T_DA) (N := 17) (kd := (15, 0)) hx hb hts (wg_ft i_DA) hown hK hO k_h0 (nxg hc0 k_h0 rfl) hP (fun _ h9 => h9) rfl 4 (by decide) (hts _ (wg_t kw_169)) (fun _ h9 => h9) (cd := (3, 3, 7)) rfl dDA_writeSmallVectors_35 (fun v36 hv36 => ?_)
        obtain ⟨r28, rfl, kr28⟩ := (show ∃ r : Nat, v36 = .ref r ∧ T r = some (3, 7) from hv36)
        refine lv_iload hx hb dDA_writeSmallVectors_38 (lv_at hl 0 rfl) ?_
        refine ty_aald3 hx hb hK hO kr28 (nxg hc0 kr28 rfl) hP (by omega) (by decide) dDA_writeSmallVectors_40 (fun r29 kr29 => ?_)
        refine lv_goto (tgt := 56) hx hb dDA_writeSmallVectors_41 (by decide) ?_
        refine lv_astore (lv' := [(5, .ref r29), (4, .int (nI i21)), (3, .int (nI 96)), (0, .ref h0), (1, .ref st), (2, .ref sk)]) hx hb dDA_writeSmallVectors_56 hl (by decide) rfl (fun ls hl => ?_)
        refine lv_aload_n hx hb dDA_writeSmallVectors_58 rfl (lv_at hl 3 rfl) ?_
        refine ty_get (ci := 6) (C := "LatticeKeys$Dsa") (TT := T_DA) (N := 17) (kd := (15, 0)) hx hb hts (wg_ft i_DA) hown hK hO k_h0 (nxg hc0 k_h0 rfl) hP (fun _ h9 => h9) rfl 2 (by decide) (hts _ (wg_t kw_167)) (fun _ h9 => h9) (cd := (3, 14, 0)) rfl dDA_writeSmallVectors_59 (fun v37 hv37 => ?_)
        obtain ⟨r30, rfl, kr30⟩ := (show ∃ r : Nat, v37 = .ref r ∧ T r = some (14, 0) from hv37)
        refine lv_aload_n hx hb dDA_writeSmallVectors_62 rfl (lv_at hl 4 rfl) ?_
        refine lv_aload hx hb dDA_writeSmallVectors_63 (lv_at hl 0 rfl) ?_
        refine lv_aload_n hx hb dDA_writeSmallVectors_65 rfl (lv_at hl 3 rfl) ?_
        refine ty_get (ci := 6) (C := "LatticeKeys$Dsa") (TT := T_DA) (N := 17) (kd := (15, 0)) hx hb hts (wg_ft i_DA) hown hK hO k_h0 (nxg hc0 k_h0 rfl) hP (fun _ h9 => h9) rfl 11 (by decide) (hts _ (wg_t kw_176)) (fun _ h9 => h9) (cd := (3, 1, 128)) rfl dDA_writeSmallVectors_66 (fun v38 hv38 => ?_)
        obtain ⟨r31, rfl, kr31⟩ := (show ∃ r : Nat, v38 = .ref r ∧ T r = some (1, 128) from hv38)
        refine lv_bipush (v := nI 32) hx hb dDA_writeSmallVectors_69 (by decide) ?_
        refine lv_iload hx hb dDA_writeSmallVectors_71 (lv_at hl 1 rfl) ?_
        refine mp_v (cx := []) (wr := []) hP hD hS hA [] [] rfl rfl rfl (by decide) (va_runV (As := [.ref st, .ref r29, .ref r31, .int (nI 32), .int (nI i21)]) (rest := []) F (t_SA_sampleSmall_0 l g _ T xs pl hO hU hc0 hc4 r30 st r29 r31 128 32 (nI i21) kr30 k_st kr29 kr31 (by omega) (by omega)) (cwV 5 hts (wg_app (wg_c kw_679 (wg_c kw_680 (wg_c kw_681 (wg_c kw_6 wg_n)))) kw_682) rfl rfl rfl (by decide +kernel) ⟨by decide, by decide⟩) (pp_VT (en_ok g) (ci := 7) (kd := (14, 0)) hK hO kr30 (nxg hc0 kr30 rfl) (fun _ h9 => ko1 h9) hP hD hS hA hE [] rfl rfl rfl) rfl rfl hl.1 rfl (lv_room (Nat.le_of_ble_eq_true rfl)) dDA_writeSmallVectors_73 ⟨by omega, by omega⟩) (fun  pl H locs hu24 hP hD hS => ?_)
        obtain ⟨hq24, hO⟩ := hu24
        have hP : va_P g.1 vcl ([] ++ pl) _ := hP
        have hD : va_D _ ([] ++ pl) := hD
        refine W.widen (k := 0) (n := 0) (by omega) (by omega) ?_
        refine lv_aload_n hx hb dDA_writeSmallVectors_76 rfl (lv_at hl 3 rfl) ?_
        refine ty_get (ci := 6) (C := "LatticeKeys$Dsa") (TT := T_DA) (N := 17) (kd := (15, 0)) hx hb hts (wg_ft i_DA) hown hK hO k_h0 (nxg hc0 k_h0 rfl) hP (fun _ h9 => h9) rfl 1 (by decide) (hts _ (wg_t kw_166)) (fun _ h9 => h9) (cd := (3, 12, 0)) rfl dDA_writeSmallVectors_77 (fun v39 hv39 => ?_)
        obtain ⟨r32, rfl, kr32⟩ := (show ∃ r : Nat, v39 = .ref r ∧ T r = some (12, 0) from hv39)
        refine lv_aload hx hb dDA_writeSmallVectors_80 (lv_at hl 0 rfl) ?_
        refine lv_aload_n hx hb dDA_writeSmallVectors_82 rfl (lv_at hl 4 rfl) ?_
        refine ty_get (ci := 2) (C := "LatticeKeys$DsaSet") (TT := T_DS) (N := 17) (kd := (43, 0)) hx hb hts (wg_ft i_DS) hown hK hO k_st (nxg hc0 k_st rfl) hP (fun _ h9 => h9) rfl 2 (by decide) (hts _ (wg_t kw_307)) (fun _ h9 => h9) (cd := (1, 0, 2)) rfl dDA_writeSmallVectors_83 (fun v40 hv40 => ?_)
        obtain rfl := (show v40 = .int (nI 2) from hv40)
        refine lv_aload_n hx hb dDA_writeSmallVectors_86 rfl (lv_at hl 3 rfl) ?_
        refine ty_get (ci := 6) (C := "LatticeKeys$Dsa") (TT := T_DA) (N := 17) (kd := (15, 0)) hx hb hts (wg_ft i_DA) hown hK hO k_h0 (nxg hc0 k_h0 rfl) hP (fun _ h9 => h9) rfl 10 (by decide) (hts _ (wg_t kw_175)) (fun _ h9 => h9) (cd := (3, 0, 256)) rfl dDA_writeSmallVectors_87 (fun v41 hv41 => ?_)
        obtain ⟨r33, rfl, kr33⟩ := (show ∃ r : Nat, v41 = .ref r ∧ T r = some (0, 256) from hv41)
        refine mp_v (cx := []) (wr := []) hP hD hS hA [] [] rfl rfl rfl (by decide) (va_runV (As := [.ref r29, .int (nI 2), .ref r33]) (rest := []) F (t_RG_flip_12 l g _ T xs pl hO hU hc0 r32 r29 r33 (nI 2) kr32 kr29 kr33) (cwV 3 hts (wg_app (wg_c kw_698 (wg_c kw_699 (wg_c kw_700 (wg_c kw_4 wg_n)))) kw_701) rfl rfl rfl (by decide +kernel) ⟨by decide, by decide⟩) (pp_VT (en_ok g) (ci := 4) (kd := (12, 0)) hK hO kr32 (nxg hc0 kr32 rfl) (fun _ h9 => ko1 h9) hP hD hS hA hE [] rfl rfl rfl) rfl rfl hl.1 rfl (lv_room (Nat.le_of_ble_eq_true rfl)) dDA_writeSmallVectors_90 ⟨by omega, by omega⟩) (fun  pl H locs hu25 hP hD hS => ?_)
        obtain ⟨hq25, hO⟩ := hu25
        have hP : va_P g.1 vcl ([] ++ pl) _ := hP
        have hD : va_D _ ([] ++ pl) := hD
        refine W.widen (k := 0) (n := 0) (by omega) (by omega) ?_
        refine lv_aload_n hx hb dDA_writeSmallVectors_93 rfl (lv_at hl 3 rfl) ?_
        refine ty_get (ci := 6) (C := "LatticeKeys$Dsa") (TT := T_DA) (N := 17) (kd := (15, 0)) hx hb hts (wg_ft i_DA) hown hK hO k_h0 (nxg hc0 k_h0 rfl) hP (fun _ h9 => h9) rfl 10 (by decide) (hts _ (wg_t kw_175)) (fun _ h9 => h9) (cd := (3, 0, 256)) rfl dDA_writeSmallVectors_94 (fun v42 hv42 => ?_)
        obtain ⟨r34, rfl, kr34⟩ := (show ∃ r : Nat, v42 = .ref r ∧ T r = some (0, 256) from hv42)
        refine lv_aload_n hx hb dDA_writeSmallVectors_97 rfl (lv_at hl 4 rfl) ?_
        refine ty_get (ci := 2) (C := "LatticeKeys$DsaSet") (TT := T_DS) (N := 17) (kd := (43, 0)) hx hb hts (wg_ft i_DS) hown hK hO k_st (nxg hc0 k_st rfl) hP (fun _ h9 => h9) rfl 3 (by decide) (hts _ (wg_t kw_310)) (fun _ h9 => h9) (cd := (1, 0, 3)) rfl dDA_writeSmallVectors_98 (fun v43 hv43 => ?_)
        obtain rfl := (show v43 = .int (nI 3) from hv43)
        refine lv_aload_n hx hb dDA_writeSmallVectors_101 rfl (lv_at hl 5 rfl) ?_
        refine lv_sipush (v := nI 128) hx hb dDA_writeSmallVectors_102 (by decide) ?_
        refine lv_iload_n hx hb dDA_writeSmallVectors_105 rfl (lv_at hl 2 rfl) ?_
        refine lv_iload hx hb dDA_writeSmallVectors_106 (lv_at hl 1 rfl) ?_
        refine mi_imul hx hb dDA_writeSmallVectors_108 ?_
        refine mi_iadd hx hb dDA_writeSmallVectors_109 ?_
        refine mp_v (cx := []) (wr := []) hP hD hS hA [] [] rfl rfl rfl (by decide) (va_runS (As := [.ref r34, .int (nI 3), .ref sk, .int (nI (128 + (96 * i21)))]) (rest := []) F (t_BT_pack l g _ T xs pl hO hU hc0 r34 sk 2560 3 (128 + (96 * i21)) kr34 k_sk (by omega) (by omega) (by omega)) (va_cwS 4 hts (wg_app (wg_c kw_702 (wg_c kw_645 (wg_c kw_22 wg_n))) kw_646) rfl rfl rfl (by decide +kernel) ⟨by decide, by decide⟩) (pp_S (en_ok g) hP hD hS hA hE [] rfl rfl) rfl rfl hl.1 rfl (lv_room (Nat.le_of_ble_eq_true rfl)) dDA_writeSmallVectors_110 ⟨by omega, by omega⟩) (fun  pl H locs hu26 hP hD hS => ?_)
        obtain ⟨hq26, hO⟩ := hu26
        have hP : va_P g.1 vcl ([] ++ pl) _ := hP
        have hD : va_D _ ([] ++ pl) := hD
        refine W.widen (k := 0) (n := 0) (by omega) (by omega) ?_
        refine mi_iinc (k := 1) (x := i21) (d := 1) (y := i21 + 1) (lv' := [(4, .int (nI (i21 + 1))), (5, .ref r29), (3, .int (nI 96)), (0, .ref h0), (1, .ref st), (2, .ref sk)]) hx hb dDA_writeSmallVectors_113 hl rfl (by decide) rfl (by decide) rfl (fun ls hl => ?_)
        refine lv_goto (tgt := 11) hx hb dDA_writeSmallVectors_116 (by decide) ?_
        exact ih21 (i21 + 1) pl ls H locs (by omega) (lv_sub hl [0, 2, 3, 4, 5] rfl) hO hP hD hS
  exact lp21 8 0 pl ls _ _ (by omega) (lv_sub hl [0, 1, 2, 3, 4] rfl) hO hP hD hS
set_option maxHeartbeats 400000 in
set_option maxRecDepth 100000 in
theorem t_DA_writeSmallVectors_1 (l : Launch) (g : Gd) (sz : Nat) (T : Ty) (xs : List Nat) (pl : va_W) (hO : okx g T xs pl) (hU : uni T) (hc0 : clo T xs 0) (hc4 : clo T xs 4) (h0 st sk : Nat) (k_h0 : T h0 = some (15, 0)) (k_st : T st = some (44, 0)) (k_sk : T sk = some (1, 4032))  : Met l y_DA_writeSmallVectors w_DA_writeSmallVectors ({ frames := 5, cells := 0, slots := 0, locals := 151 } : Room) (va_Pc [.ref h0, .ref st, .ref sk] (pr (en g) g.1 vcl sz ([] ++ pl))) (va_Qv (fun (u : va_W) => (True) ∧ okx g T xs u) (po g.1 vcl (va_A ([] ++ pl) sz) (fun (u : va_W) => [] ++ u)) (va_A ([] ++ pl) sz)) 0 0 (va_A ([] ++ pl) sz) := by
  refine mc_entry (cc := c_DA_writeSmallVectors) (maxL := 6) (ret := none) (by decide) rfl (Nat.le_of_ble_eq_true rfl) ?_
  intro p e s m args below meth c ls F hr hlk hnm hsz hP hD hE hA hl
  obtain ⟨hx, hb, hml, hown, hts⟩ := id F
  have hK := hE.1
  generalize va_A ([] ++ pl) sz = A at hD hE hA ⊢
  have hS : va_S A s.heap s.heap [] := va_S.rf
  have hl : lv_has ls 6 [(0, .ref h0), (1, .ref st), (2, .ref sk)] := hl
  refine lv_bipush (v := nI 32) hx hb dDA_writeSmallVectors_0 (by decide) ?_
  refine lv_aload_n hx hb dDA_writeSmallVectors_2 rfl (lv_at hl 1 rfl) ?_
  refine ty_get (ci := 2) (C := "LatticeKeys$DsaSet") (TT := T_DS) (N := 17) (kd := (44, 0)) hx hb hts (wg_ft i_DS) hown hK hO k_st (nxg hc0 k_st rfl) hP (fun _ h9 => h9) rfl 3 (by decide) (hts _ (wg_t kw_310)) (fun _ h9 => h9) (cd := (1, 0, 4)) rfl dDA_writeSmallVectors_3 (fun v21 hv21 => ?_)
  obtain rfl := (show v21 = .int (nI 4) from hv21)
  refine mi_imul hx hb dDA_writeSmallVectors_6 ?_
  refine mi_as (show nI (32 * 4) = nI 128 from rfl) ?_
  refine lv_istore_n (lv' := [(3, .int (nI 128)), (0, .ref h0), (1, .ref st), (2, .ref sk)]) hx hb dDA_writeSmallVectors_7 rfl hl (by decide) rfl (fun ls hl => ?_)
  refine lv_iconst (v := nI 0) hx hb dDA_writeSmallVectors_8 (by decide) ?_
  refine lv_istore (lv' := [(4, .int (nI 0)), (3, .int (nI 128)), (0, .ref h0), (1, .ref st), (2, .ref sk)]) hx hb dDA_writeSmallVectors_9 hl (by decide) rfl (fun ls hl => ?_)
  have lp21 : ∀ (n21 : Nat) (i21 : Nat) (pl : va_W) (ls : Array Slot) (H : Heap) (locs : List Loc), n21 + i21 = 11 → lv_has ls 6 [(4, .int (nI i21)), (3, .int (nI 128)), (0, .ref h0), (1, .ref st), (2, .ref sk)] → okx g T xs pl → va_P g.1 vcl ([] ++ pl) H → va_D A ([] ++ pl) → va_S A s.heap H locs → W p l e ({ frames := 5, cells := 0, slots := 0, locals := 151 } : Room) s m args below meth c H locs 0 0 (MQ below (va_Qv (fun (u : va_W) => (True) ∧ okx g T xs u) (po g.1 vcl A (fun (u : va_W) => [] ++ u)) A) args s 0 0 A) (F0 m 11 ls []) := by
    intro n21
    induction n21 with
    | zero =>
      intro i21 pl ls H locs hm21  hl hO hP hD hS
      refine lv_iload hx hb dDA_writeSmallVectors_11 (lv_at hl 0 rfl) ?_
      refine lv_aload_n hx hb dDA_writeSmallVectors_13 rfl (lv_at hl 3 rfl) ?_
      refine ty_get (ci := 2) (C := "LatticeKeys$DsaSet") (TT := T_DS) (N := 17) (kd := (44, 0)) hx hb hts (wg_ft i_DS) hown hK hO k_st (nxg hc0 k_st rfl) hP (fun _ h9 => h9) rfl 1 (by decide) (hts _ (wg_t kw_305)) (fun _ h9 => h9) (cd := (1, 0, 5)) rfl dDA_writeSmallVectors_14 (fun v22 hv22 => ?_)
      obtain rfl := (show v22 = .int (nI 5) from hv22)
      refine lv_aload_n hx hb dDA_writeSmallVectors_17 rfl (lv_at hl 3 rfl) ?_
      refine ty_get (ci := 2) (C := "LatticeKeys$DsaSet") (TT := T_DS) (N := 17) (kd := (44, 0)) hx hb hts (wg_ft i_DS) hown hK hO k_st (nxg hc0 k_st rfl) hP (fun _ h9 => h9) rfl 0 (by decide) (hts _ (wg_t kw_302)) (fun _ h9 => h9) (cd := (1, 0, 6)) rfl dDA_writeSmallVectors_18 (fun v23 hv23 => ?_)
      obtain rfl := (show v23 = .int (nI 6) from hv23)
      refine mi_iadd hx hb dDA_writeSmallVectors_21 ?_
      refine mi_as (show nI (5 + 6) = nI 11 from rfl) ?_
      refine mi_ge (tgt := 119) hx hb dDA_writeSmallVectors_22 (by decide) (by omega) (by omega) (fun h21 => ?_) (fun h21 => absurd h21 (by omega))
      exact mp_vret hx hb hr hlk hP hD hS pl ⟨trivial, hO⟩ [] rfl rfl rfl (by omega) (by omega) dDA_writeSmallVectors_119
    | succ n21 ih21 =>
      intro i21 pl ls H locs hm21  hl hO hP hD hS
      refine lv_iload hx hb dDA_writeSmallVectors_11 (lv_at hl 0 rfl) ?_
      refine lv_aload_n hx hb dDA_writeSmallVectors_13 rfl (lv_at hl 3 rfl) ?_
      refine ty_get (ci := 2) (C := "LatticeKeys$DsaSet") (TT := T_DS) (N := 17) (kd := (44, 0)) hx hb hts (wg_ft i_DS) hown hK hO k_st (nxg hc0 k_st rfl) hP (fun _ h9 => h9) rfl 1 (by decide) (hts _ (wg_t kw_305)) (fun _ h9 => h9) (cd := (1, 0, 5)) rfl dDA_writeSmallVectors_14 (fun v24 hv24 => ?_)
      obtain rfl := (show v24 = .int (nI 5) from hv24)
      refine lv_aload_n hx hb dDA_writeSmallVectors_17 rfl (lv_at hl 3 rfl) ?_
      refine ty_get (ci := 2) (C := "LatticeKeys$DsaSet") (TT := T_DS) (N := 17) (kd := (44, 0)) hx hb hts (wg_ft i_DS) hown hK hO k_st (nxg hc0 k_st rfl) hP (fun _ h9 => h9) rfl 0 (by decide) (hts _ (wg_t kw_302)) (fun _ h9 => h9) (cd := (1, 0, 6)) rfl dDA_writeSmallVectors_18 (fun v25 hv25 => ?_)
      obtain rfl := (show v25 = .int (nI 6) from hv25)
      refine mi_iadd hx hb dDA_writeSmallVectors_21 ?_
      refine mi_as (show nI (5 + 6) = nI 11 from rfl) ?_
      refine mi_ge (tgt := 119) hx hb dDA_writeSmallVectors_22 (by decide) (by omega) (by omega) (fun h22 => absurd h22 (by omega)) (fun h22 => ?_)
      refine lv_iload hx hb dDA_writeSmallVectors_25 (lv_at hl 0 rfl) ?_
      refine lv_aload_n hx hb dDA_writeSmallVectors_27 rfl (lv_at hl 3 rfl) ?_
      refine ty_get (ci := 2) (C := "LatticeKeys$DsaSet") (TT := T_DS) (N := 17) (kd := (44, 0)) hx hb hts (wg_ft i_DS) hown hK hO k_st (nxg hc0 k_st rfl) hP (fun _ h9 => h9) rfl 1 (by decide) (hts _ (wg_t kw_305)) (fun _ h9 => h9) (cd := (1, 0, 5)) rfl dDA_writeSmallVectors_28 (fun v26 hv26 => ?_)
      obtain rfl := (show v26 = .int (nI 5) from hv26)
      refine mi_ge (tgt := 44) hx hb dDA_writeSmallVectors_31 (by decide) (by omega) (by omega) (fun h23 => ?_) (fun h23 => ?_)
      · refine lv_aload_n hx hb dDA_writeSmallVectors_44 rfl (lv_at hl 2 rfl) ?_
        refine ty_get (ci := 6) (C := "LatticeKeys$Dsa") (TT := T_DA) (N := 17) (kd := (15, 0)) hx hb hts (wg_ft i_DA) hown hK hO k_h0 (nxg hc0 k_h0 rfl) hP (fun _ h9 => h9) rfl 5 (by decide) (hts _ (wg_t kw_170)) (fun _ h9 => h9) (cd := (3, 3, 8)) rfl dDA_writeSmallVectors_45 (fun v27 hv27 => ?_)
        obtain ⟨r21, rfl, kr21⟩ := (show ∃ r : Nat, v27 = .ref r ∧ T r = some (3, 8) from hv27)
        refine lv_iload hx hb dDA_writeSmallVectors_48 (lv_at hl 0 rfl) ?_
        refine lv_aload_n hx hb dDA_writeSmallVectors_50 rfl (lv_at hl 3 rfl) ?_
        refine ty_get (ci := 2) (C := "LatticeKeys$DsaSet") (TT := T_DS) (N := 17) (kd := (44, 0)) hx hb hts (wg_ft i_DS) hown hK hO k_st (nxg hc0 k_st rfl) hP (fun _ h9 => h9) rfl 1 (by decide) (hts _ (wg_t kw_305)) (fun _ h9 => h9) (cd := (1, 0, 5)) rfl dDA_writeSmallVectors_51 (fun v28 hv28 => ?_)
        obtain rfl := (show v28 = .int (nI 5) from hv28)
        refine mi_isub hx hb dDA_writeSmallVectors_54 (by omega) ?_
        refine ty_aald3 hx hb hK hO kr21 (nxg hc0 kr21 rfl) hP (by omega) (by decide) dDA_writeSmallVectors_55 (fun r22 kr22 => ?_)
        refine lv_astore (lv' := [(5, .ref r22), (4, .int (nI i21)), (3, .int (nI 128)), (0, .ref h0), (1, .ref st), (2, .ref sk)]) hx hb dDA_writeSmallVectors_56 hl (by decide) rfl (fun ls hl => ?_)
        refine lv_aload_n hx hb dDA_writeSmallVectors_58 rfl (lv_at hl 3 rfl) ?_
        refine ty_get (ci := 6) (C := "LatticeKeys$Dsa") (TT := T_DA) (N := 17) (kd := (15, 0)) hx hb hts (wg_ft i_DA) hown hK hO k_h0 (nxg hc0 k_h0 rfl) hP (fun _ h9 => h9) rfl 2 (by decide) (hts _ (wg_t kw_167)) (fun _ h9 => h9) (cd := (3, 14, 0)) rfl dDA_writeSmallVectors_59 (fun v29 hv29 => ?_)
        obtain ⟨r23, rfl, kr23⟩ := (show ∃ r : Nat, v29 = .ref r ∧ T r = some (14, 0) from hv29)
        refine lv_aload_n hx hb dDA_writeSmallVectors_62 rfl (lv_at hl 4 rfl) ?_
        refine lv_aload hx hb dDA_writeSmallVectors_63 (lv_at hl 0 rfl) ?_
        refine lv_aload_n hx hb dDA_writeSmallVectors_65 rfl (lv_at hl 3 rfl) ?_
        refine ty_get (ci := 6) (C := "LatticeKeys$Dsa") (TT := T_DA) (N := 17) (kd := (15, 0)) hx hb hts (wg_ft i_DA) hown hK hO k_h0 (nxg hc0 k_h0 rfl) hP (fun _ h9 => h9) rfl 11 (by decide) (hts _ (wg_t kw_176)) (fun _ h9 => h9) (cd := (3, 1, 128)) rfl dDA_writeSmallVectors_66 (fun v30 hv30 => ?_)
        obtain ⟨r24, rfl, kr24⟩ := (show ∃ r : Nat, v30 = .ref r ∧ T r = some (1, 128) from hv30)
        refine lv_bipush (v := nI 32) hx hb dDA_writeSmallVectors_69 (by decide) ?_
        refine lv_iload hx hb dDA_writeSmallVectors_71 (lv_at hl 1 rfl) ?_
        refine mp_v (cx := []) (wr := []) hP hD hS hA [] [] rfl rfl rfl (by decide) (va_runV (As := [.ref st, .ref r22, .ref r24, .int (nI 32), .int (nI i21)]) (rest := []) F (t_SA_sampleSmall_1 l g _ T xs pl hO hU hc0 hc4 r23 st r22 r24 128 32 (nI i21) kr23 k_st kr22 kr24 (by omega) (by omega)) (cwV 5 hts (wg_app (wg_c kw_679 (wg_c kw_680 (wg_c kw_681 (wg_c kw_6 wg_n)))) kw_682) rfl rfl rfl (by decide +kernel) ⟨by decide, by decide⟩) (pp_VT (en_ok g) (ci := 7) (kd := (14, 0)) hK hO kr23 (nxg hc0 kr23 rfl) (fun _ h9 => ko1 h9) hP hD hS hA hE [] rfl rfl rfl) rfl rfl hl.1 rfl (lv_room (Nat.le_of_ble_eq_true rfl)) dDA_writeSmallVectors_73 ⟨by omega, by omega⟩) (fun  pl H locs hu21 hP hD hS => ?_)
        obtain ⟨hq21, hO⟩ := hu21
        have hP : va_P g.1 vcl ([] ++ pl) _ := hP
        have hD : va_D _ ([] ++ pl) := hD
        refine W.widen (k := 0) (n := 0) (by omega) (by omega) ?_
        refine lv_aload_n hx hb dDA_writeSmallVectors_76 rfl (lv_at hl 3 rfl) ?_
        refine ty_get (ci := 6) (C := "LatticeKeys$Dsa") (TT := T_DA) (N := 17) (kd := (15, 0)) hx hb hts (wg_ft i_DA) hown hK hO k_h0 (nxg hc0 k_h0 rfl) hP (fun _ h9 => h9) rfl 1 (by decide) (hts _ (wg_t kw_166)) (fun _ h9 => h9) (cd := (3, 12, 0)) rfl dDA_writeSmallVectors_77 (fun v31 hv31 => ?_)
        obtain ⟨r25, rfl, kr25⟩ := (show ∃ r : Nat, v31 = .ref r ∧ T r = some (12, 0) from hv31)
        refine lv_aload hx hb dDA_writeSmallVectors_80 (lv_at hl 0 rfl) ?_
        refine lv_aload_n hx hb dDA_writeSmallVectors_82 rfl (lv_at hl 4 rfl) ?_
        refine ty_get (ci := 2) (C := "LatticeKeys$DsaSet") (TT := T_DS) (N := 17) (kd := (44, 0)) hx hb hts (wg_ft i_DS) hown hK hO k_st (nxg hc0 k_st rfl) hP (fun _ h9 => h9) rfl 2 (by decide) (hts _ (wg_t kw_307)) (fun _ h9 => h9) (cd := (1, 0, 4)) rfl dDA_writeSmallVectors_83 (fun v32 hv32 => ?_)
        obtain rfl := (show v32 = .int (nI 4) from hv32)
        refine lv_aload_n hx hb dDA_writeSmallVectors_86 rfl (lv_at hl 3 rfl) ?_
        refine ty_get (ci := 6) (C := "LatticeKeys$Dsa") (TT := T_DA) (N := 17) (kd := (15, 0)) hx hb hts (wg_ft i_DA) hown hK hO k_h0 (nxg hc0 k_h0 rfl) hP (fun _ h9 => h9) rfl 10 (by decide) (hts _ (wg_t kw_175)) (fun _ h9 => h9) (cd := (3, 0, 256)) rfl dDA_writeSmallVectors_87 (fun v33 hv33 => ?_)
        obtain ⟨r26, rfl, kr26⟩ := (show ∃ r : Nat, v33 = .ref r ∧ T r = some (0, 256) from hv33)
        refine mp_v (cx := []) (wr := []) hP hD hS hA [] [] rfl rfl rfl (by decide) (va_runV (As := [.ref r22, .int (nI 4), .ref r26]) (rest := []) F (t_RG_flip_12 l g _ T xs pl hO hU hc0 r25 r22 r26 (nI 4) kr25 kr22 kr26) (cwV 3 hts (wg_app (wg_c kw_698 (wg_c kw_699 (wg_c kw_700 (wg_c kw_4 wg_n)))) kw_701) rfl rfl rfl (by decide +kernel) ⟨by decide, by decide⟩) (pp_VT (en_ok g) (ci := 4) (kd := (12, 0)) hK hO kr25 (nxg hc0 kr25 rfl) (fun _ h9 => ko1 h9) hP hD hS hA hE [] rfl rfl rfl) rfl rfl hl.1 rfl (lv_room (Nat.le_of_ble_eq_true rfl)) dDA_writeSmallVectors_90 ⟨by omega, by omega⟩) (fun  pl H locs hu22 hP hD hS => ?_)
        obtain ⟨hq22, hO⟩ := hu22
        have hP : va_P g.1 vcl ([] ++ pl) _ := hP
        have hD : va_D _ ([] ++ pl) := hD
        refine W.widen (k := 0) (n := 0) (by omega) (by omega) ?_
        refine lv_aload_n hx hb dDA_writeSmallVectors_93 rfl (lv_at hl 3 rfl) ?_
        refine ty_get (ci := 6) (C := "LatticeKeys$Dsa") (TT := T_DA) (N := 17) (kd := (15, 0)) hx hb hts (wg_ft i_DA) hown hK hO k_h0 (nxg hc0 k_h0 rfl) hP (fun _ h9 => h9) rfl 10 (by decide) (hts _ (wg_t kw_175)) (fun _ h9 => h9) (cd := (3, 0, 256)) rfl dDA_writeSmallVectors_94 (fun v34 hv34 => ?_)
        obtain ⟨r27, rfl, kr27⟩ := (show ∃ r : Nat, v34 = .ref r ∧ T r = some (0, 256) from hv34)
        refine lv_aload_n hx hb dDA_writeSmallVectors_97 rfl (lv_at hl 4 rfl) ?_
        refine ty_get (ci := 2) (C := "LatticeKeys$DsaSet") (TT := T_DS) (N := 17) (kd := (44, 0)) hx hb hts (wg_ft i_DS) hown hK hO k_st (nxg hc0 k_st rfl) hP (fun _ h9 => h9) rfl 3 (by decide) (hts _ (wg_t kw_310)) (fun _ h9 => h9) (cd := (1, 0, 4)) rfl dDA_writeSmallVectors_98 (fun v35 hv35 => ?_)
        obtain rfl := (show v35 = .int (nI 4) from hv35)
        refine lv_aload_n hx hb dDA_writeSmallVectors_101 rfl (lv_at hl 5 rfl) ?_
        refine lv_sipush (v := nI 128) hx hb dDA_writeSmallVectors_102 (by decide) ?_
        refine lv_iload_n hx hb dDA_writeSmallVectors_105 rfl (lv_at hl 2 rfl) ?_
        refine lv_iload hx hb dDA_writeSmallVectors_106 (lv_at hl 1 rfl) ?_
        refine mi_imul hx hb dDA_writeSmallVectors_108 ?_
        refine mi_iadd hx hb dDA_writeSmallVectors_109 ?_
        refine mp_v (cx := []) (wr := []) hP hD hS hA [] [] rfl rfl rfl (by decide) (va_runS (As := [.ref r27, .int (nI 4), .ref sk, .int (nI (128 + (128 * i21)))]) (rest := []) F (t_BT_pack l g _ T xs pl hO hU hc0 r27 sk 4032 4 (128 + (128 * i21)) kr27 k_sk (by omega) (by omega) (by omega)) (va_cwS 4 hts (wg_app (wg_c kw_702 (wg_c kw_645 (wg_c kw_22 wg_n))) kw_646) rfl rfl rfl (by decide +kernel) ⟨by decide, by decide⟩) (pp_S (en_ok g) hP hD hS hA hE [] rfl rfl) rfl rfl hl.1 rfl (lv_room (Nat.le_of_ble_eq_true rfl)) dDA_writeSmallVectors_110 ⟨by omega, by omega⟩) (fun  pl H locs hu23 hP hD hS => ?_)
        obtain ⟨hq23, hO⟩ := hu23
        have hP : va_P g.1 vcl ([] ++ pl) _ := hP
        have hD : va_D _ ([] ++ pl) := hD
        refine W.widen (k := 0) (n := 0) (by omega) (by omega) ?_
        refine mi_iinc (k := 1) (x := i21) (d := 1) (y := i21 + 1) (lv' := [(4, .int (nI (i21 + 1))), (5, .ref r22), (3, .int (nI 128)), (0, .ref h0), (1, .ref st), (2, .ref sk)]) hx hb dDA_writeSmallVectors_113 hl rfl (by decide) rfl (by decide) rfl (fun ls hl => ?_)
        refine lv_goto (tgt := 11) hx hb dDA_writeSmallVectors_116 (by decide) ?_
        exact ih21 (i21 + 1) pl ls H locs (by omega) (lv_sub hl [0, 2, 3, 4, 5] rfl) hO hP hD hS
      · refine lv_aload_n hx hb dDA_writeSmallVectors_34 rfl (lv_at hl 2 rfl) ?_
        refine ty_get (ci := 6) (C := "LatticeKeys$Dsa") (TT := T_DA) (N := 17) (kd := (15, 0)) hx hb hts (wg_ft i_DA) hown hK hO k_h0 (nxg hc0 k_h0 rfl) hP (fun _ h9 => h9) rfl 4 (by decide) (hts _ (wg_t kw_169)) (fun _ h9 => h9) (cd := (3, 3, 7)) rfl dDA_writeSmallVectors_35 (fun v36 hv36 => ?_)
        obtain ⟨r28, rfl, kr28⟩ := (show ∃ r : Nat, v36 = .ref r ∧ T r = some (3, 7) from hv36)
        refine lv_iload hx hb dDA_writeSmallVectors_38 (lv_at hl 0 rfl) ?_
        refine ty_aald3 hx hb hK hO kr28 (nxg hc0 kr28 rfl) hP (by omega) (by decide) dDA_writeSmallVectors_40 (fun r29 kr29 => ?_)
        refine lv_goto (tgt := 56) hx hb dDA_writeSmallVectors_41 (by decide) ?_
        refine lv_astore (lv' := [(5, .ref r29), (4, .int (nI i21)), (3, .int (nI 128)), (0, .ref h0), (1, .ref st), (2, .ref sk)]) hx hb dDA_writeSmallVectors_56 hl (by decide) rfl (fun ls hl => ?_)
        refine lv_aload_n hx hb dDA_writeSmallVectors_58 rfl (lv_at hl 3 rfl) ?_
        refine ty_get (ci := 6) (C := "LatticeKeys$Dsa") (TT := T_DA) (N := 17) (kd := (15, 0)) hx hb hts (wg_ft i_DA) hown hK hO k_h0 (nxg hc0 k_h0 rfl) hP (fun _ h9 => h9) rfl 2 (by decide) (hts _ (wg_t kw_167)) (fun _ h9 => h9) (cd := (3, 14, 0)) rfl dDA_writeSmallVectors_59 (fun v37 hv37 => ?_)
        obtain ⟨r30, rfl, kr30⟩ := (show ∃ r : Nat, v37 = .ref r ∧ T r = some (14, 0) from hv37)
        refine lv_aload_n hx hb dDA_writeSmallVectors_62 rfl (lv_at hl 4 rfl) ?_
        refine lv_aload hx hb dDA_writeSmallVectors_63 (lv_at hl 0 rfl) ?_
        refine lv_aload_n hx hb dDA_writeSmallVectors_65 rfl (lv_at hl 3 rfl) ?_
        refine ty_get (ci := 6) (C := "LatticeKeys$Dsa") (TT := T_DA) (N := 17) (kd := (15, 0)) hx hb hts (wg_ft i_DA) hown hK hO k_h0 (nxg hc0 k_h0 rfl) hP (fun _ h9 => h9) rfl 11 (by decide) (hts _ (wg_t kw_176)) (fun _ h9 => h9) (cd := (3, 1, 128)) rfl dDA_writeSmallVectors_66 (fun v38 hv38 => ?_)
        obtain ⟨r31, rfl, kr31⟩ := (show ∃ r : Nat, v38 = .ref r ∧ T r = some (1, 128) from hv38)
        refine lv_bipush (v := nI 32) hx hb dDA_writeSmallVectors_69 (by decide) ?_
        refine lv_iload hx hb dDA_writeSmallVectors_71 (lv_at hl 1 rfl) ?_
        refine mp_v (cx := []) (wr := []) hP hD hS hA [] [] rfl rfl rfl (by decide) (va_runV (As := [.ref st, .ref r29, .ref r31, .int (nI 32), .int (nI i21)]) (rest := []) F (t_SA_sampleSmall_1 l g _ T xs pl hO hU hc0 hc4 r30 st r29 r31 128 32 (nI i21) kr30 k_st kr29 kr31 (by omega) (by omega)) (cwV 5 hts (wg_app (wg_c kw_679 (wg_c kw_680 (wg_c kw_681 (wg_c kw_6 wg_n)))) kw_682) rfl rfl rfl (by decide +kernel) ⟨by decide, by decide⟩) (pp_VT (en_ok g) (ci := 7) (kd := (14, 0)) hK hO kr30 (nxg hc0 kr30 rfl) (fun _ h9 => ko1 h9) hP hD hS hA hE [] rfl rfl rfl) rfl rfl hl.1 rfl (lv_room (Nat.le_of_ble_eq_true rfl)) dDA_writeSmallVectors_73 ⟨by omega, by omega⟩) (fun  pl H locs hu24 hP hD hS => ?_)
        obtain ⟨hq24, hO⟩ := hu24
        have hP : va_P g.1 vcl ([] ++ pl) _ := hP
        have hD : va_D _ ([] ++ pl) := hD
        refine W.widen (k := 0) (n := 0) (by omega) (by omega) ?_
        refine lv_aload_n hx hb dDA_writeSmallVectors_76 rfl (lv_at hl 3 rfl) ?_
        refine ty_get (ci := 6) (C := "LatticeKeys$Dsa") (TT := T_DA) (N := 17) (kd := (15, 0)) hx hb hts (wg_ft i_DA) hown hK hO k_h0 (nxg hc0 k_h0 rfl) hP (fun _ h9 => h9) rfl 1 (by decide) (hts _ (wg_t kw_166)) (fun _ h9 => h9) (cd := (3, 12, 0)) rfl dDA_writeSmallVectors_77 (fun v39 hv39 => ?_)
        obtain ⟨r32, rfl, kr32⟩ := (show ∃ r : Nat, v39 = .ref r ∧ T r = some (12, 0) from hv39)
        refine lv_aload hx hb dDA_writeSmallVectors_80 (lv_at hl 0 rfl) ?_
        refine lv_aload_n hx hb dDA_writeSmallVectors_82 rfl (lv_at hl 4 rfl) ?_
        refine ty_get (ci := 2) (C := "LatticeKeys$DsaSet") (TT := T_DS) (N := 17) (kd := (44, 0)) hx hb hts (wg_ft i_DS) hown hK hO k_st (nxg hc0 k_st rfl) hP (fun _ h9 => h9) rfl 2 (by decide) (hts _ (wg_t kw_307)) (fun _ h9 => h9) (cd := (1, 0, 4)) rfl dDA_writeSmallVectors_83 (fun v40 hv40 => ?_)
        obtain rfl := (show v40 = .int (nI 4) from hv40)
        refine lv_aload_n hx hb dDA_writeSmallVectors_86 rfl (lv_at hl 3 rfl) ?_
        refine ty_get (ci := 6) (C := "LatticeKeys$Dsa") (TT := T_DA) (N := 17) (kd := (15, 0)) hx hb hts (wg_ft i_DA) hown hK hO k_h0 (nxg hc0 k_h0 rfl) hP (fun _ h9 => h9) rfl 10 (by decide) (hts _ (wg_t kw_175)) (fun _ h9 => h9) (cd := (3, 0, 256)) rfl dDA_writeSmallVectors_87 (fun v41 hv41 => ?_)
        obtain ⟨r33, rfl, kr33⟩ := (show ∃ r : Nat, v41 = .ref r ∧ T r = some (0, 256) from hv41)
        refine mp_v (cx := []) (wr := []) hP hD hS hA [] [] rfl rfl rfl (by decide) (va_runV (As := [.ref r29, .int (nI 4), .ref r33]) (rest := []) F (t_RG_flip_12 l g _ T xs pl hO hU hc0 r32 r29 r33 (nI 4) kr32 kr29 kr33) (cwV 3 hts (wg_app (wg_c kw_698 (wg_c kw_699 (wg_c kw_700 (wg_c kw_4 wg_n)))) kw_701) rfl rfl rfl (by decide +kernel) ⟨by decide, by decide⟩) (pp_VT (en_ok g) (ci := 4) (kd := (12, 0)) hK hO kr32 (nxg hc0 kr32 rfl) (fun _ h9 => ko1 h9) hP hD hS hA hE [] rfl rfl rfl) rfl rfl hl.1 rfl (lv_room (Nat.le_of_ble_eq_true rfl)) dDA_writeSmallVectors_90 ⟨by omega, by omega⟩) (fun  pl H locs hu25 hP hD hS => ?_)
        obtain ⟨hq25, hO⟩ := hu25
        have hP : va_P g.1 vcl ([] ++ pl) _ := hP
        have hD : va_D _ ([] ++ pl) := hD
        refine W.widen (k := 0) (n := 0) (by omega) (by omega) ?_
        refine lv_aload_n hx hb dDA_writeSmallVectors_93 rfl (lv_at hl 3 rfl) ?_
        refine ty_get (ci := 6) (C := "LatticeKeys$Dsa") (TT := T_DA) (N := 17) (kd := (15, 0)) hx hb hts (wg_ft i_DA) hown hK hO k_h0 (nxg hc0 k_h0 rfl) hP (fun _ h9 => h9) rfl 10 (by decide) (hts _ (wg_t kw_175)) (fun _ h9 => h9) (cd := (3, 0, 256)) rfl dDA_writeSmallVectors_94 (fun v42 hv42 => ?_)
        obtain ⟨r34, rfl, kr34⟩ := (show ∃ r : Nat, v42 = .ref r ∧ T r = some (0, 256) from hv42)
        refine lv_aload_n hx hb dDA_writeSmallVectors_97 rfl (lv_at hl 4 rfl) ?_
        refine ty_get (ci := 2) (C := "LatticeKeys$DsaSet") (TT := T_DS) (N := 17) (kd := (44, 0)) hx hb hts (wg_ft i_DS) hown hK hO k_st (nxg hc0 k_st rfl) hP (fun _ h9 => h9) rfl 3 (by decide) (hts _ (wg_t kw_310)) (fun _ h9 => h9) (cd := (1, 0, 4)) rfl dDA_writeSmallVectors_98 (fun v43 hv43 => ?_)
        obtain rfl := (show v43 = .int (nI 4) from hv43)
        refine lv_aload_n hx hb dDA_writeSmallVectors_101 rfl (lv_at hl 5 rfl) ?_
        refine lv_sipush (v := nI 128) hx hb dDA_writeSmallVectors_102 (by decide) ?_
        refine lv_iload_n hx hb dDA_writeSmallVectors_105 rfl (lv_at hl 2 rfl) ?_
        refine lv_iload hx hb dDA_writeSmallVectors_106 (lv_at hl 1 rfl) ?_
        refine mi_imul hx hb dDA_writeSmallVectors_108 ?_
        refine mi_iadd hx hb dDA_writeSmallVectors_109 ?_
        refine mp_v (cx := []) (wr := []) hP hD hS hA [] [] rfl rfl rfl (by decide) (va_runS (As := [.ref r34, .int (nI 4), .ref sk, .int (nI (128 + (128 * i21)))]) (rest := []) F (t_BT_pack l g _ T xs pl hO hU hc0 r34 sk 4032 4 (128 + (128 * i21)) kr34 k_sk (by omega) (by omega) (by omega)) (va_cwS 4 hts (wg_app (wg_c kw_702 (wg_c kw_645 (wg_c kw_22 wg_n))) kw_646) rfl rfl rfl (by decide +kernel) ⟨by decide, by decide⟩) (pp_S (en_ok g) hP hD hS hA hE [] rfl rfl) rfl rfl hl.1 rfl (lv_room (Nat.le_of_ble_eq_true rfl)) dDA_writeSmallVectors_110 ⟨by omega, by omega⟩) (fun  pl H locs hu26 hP hD hS => ?_)
        obtain ⟨hq26, hO⟩ := hu26
        have hP : va_P g.1 vcl ([] ++ pl) _ := hP
        have hD : va_D _ ([] ++ pl) := hD
        refine W.widen (k := 0) (n := 0) (by omega) (by omega) ?_
        refine mi_iinc (k := 1) (x := i21) (d := 1) (y := i21 + 1) (lv' := [(4, .int (nI (i21 + 1))), (5, .ref r29), (3, .int (nI 128)), (0, .ref h0), (1, .ref st), (2, .ref sk)]) hx hb dDA_writeSmallVectors_113 hl rfl (by decide) rfl (by decide) rfl (fun ls hl => ?_)
        refine lv_goto (tgt := 11) hx hb dDA_writeSmallVectors_116 (by decide) ?_
        exact ih21 (i21 + 1) pl ls H locs (by omega) (lv_sub hl [0, 2, 3, 4, 5] rfl) hO hP hD hS
  exact lp21 11 0 pl ls _ _ (by omega) (lv_sub hl [0, 1, 2, 3, 4] rfl) hO hP hD hS
set_option maxHeartbeats 400000 in
set_option maxRecDepth 100000 in
theorem t_DA_writeSmallVectors_2 (l : Launch) (g : Gd) (sz : Nat) (T : Ty) (xs : List Nat) (pl : va_W) (hO : okx g T xs pl) (hU : uni T) (hc0 : clo T xs 0) (hc4 : clo T xs 4) (h0 st sk : Nat) (k_h0 : T h0 = some (15, 0)) (k_st : T st = some (45, 0)) (k_sk : T sk = some (1, 4896))  : Met l y_DA_writeSmallVectors w_DA_writeSmallVectors ({ frames := 5, cells := 0, slots := 0, locals := 151 } : Room) (va_Pc [.ref h0, .ref st, .ref sk] (pr (en g) g.1 vcl sz ([] ++ pl))) (va_Qv (fun (u : va_W) => (True) ∧ okx g T xs u) (po g.1 vcl (va_A ([] ++ pl) sz) (fun (u : va_W) => [] ++ u)) (va_A ([] ++ pl) sz)) 0 0 (va_A ([] ++ pl) sz) := by
  refine mc_entry (cc := c_DA_writeSmallVectors) (maxL := 6) (ret := none) (by decide) rfl (Nat.le_of_ble_eq_true rfl) ?_
  intro p e s m args below meth c ls F hr hlk hnm hsz hP hD hE hA hl
  obtain ⟨hx, hb, hml, hown, hts⟩ := id F
  have hK := hE.1
  generalize va_A ([] ++ pl) sz = A at hD hE hA ⊢
  have hS : va_S A s.heap s.heap [] := va_S.rf
  have hl : lv_has ls 6 [(0, .ref h0), (1, .ref st), (2, .ref sk)] := hl
  refine lv_bipush (v := nI 32) hx hb dDA_writeSmallVectors_0 (by decide) ?_
  refine lv_aload_n hx hb dDA_writeSmallVectors_2 rfl (lv_at hl 1 rfl) ?_
  refine ty_get (ci := 2) (C := "LatticeKeys$DsaSet") (TT := T_DS) (N := 17) (kd := (45, 0)) hx hb hts (wg_ft i_DS) hown hK hO k_st (nxg hc0 k_st rfl) hP (fun _ h9 => h9) rfl 3 (by decide) (hts _ (wg_t kw_310)) (fun _ h9 => h9) (cd := (1, 0, 3)) rfl dDA_writeSmallVectors_3 (fun v21 hv21 => ?_)
  obtain rfl := (show v21 = .int (nI 3) from hv21)
  refine mi_imul hx hb dDA_writeSmallVectors_6 ?_
  refine mi_as (show nI (32 * 3) = nI 96 from rfl) ?_
  refine lv_istore_n (lv' := [(3, .int (nI 96)), (0, .ref h0), (1, .ref st), (2, .ref sk)]) hx hb dDA_writeSmallVectors_7 rfl hl (by decide) rfl (fun ls hl => ?_)
  refine lv_iconst (v := nI 0) hx hb dDA_writeSmallVectors_8 (by decide) ?_
  refine lv_istore (lv' := [(4, .int (nI 0)), (3, .int (nI 96)), (0, .ref h0), (1, .ref st), (2, .ref sk)]) hx hb dDA_writeSmallVectors_9 hl (by decide) rfl (fun ls hl => ?_)
  have lp21 : ∀ (n21 : Nat) (i21 : Nat) (pl : va_W) (ls : Array Slot) (H : Heap) (locs : List Loc), n21 + i21 = 15 → lv_has ls 6 [(4, .int (nI i21)), (3, .int (nI 96)), (0, .ref h0), (1, .ref st), (2, .ref sk)] → okx g T xs pl → va_P g.1 vcl ([] ++ pl) H → va_D A ([] ++ pl) → va_S A s.heap H locs → W p l e ({ frames := 5, cells := 0, slots := 0, locals := 151 } : Room) s m args below meth c H locs 0 0 (MQ below (va_Qv (fun (u : va_W) => (True) ∧ okx g T xs u) (po g.1 vcl A (fun (u : va_W) => [] ++ u)) A) args s 0 0 A) (F0 m 11 ls []) := by
    intro n21
    induction n21 with
    | zero =>
      intro i21 pl ls H locs hm21  hl hO hP hD hS
      refine lv_iload hx hb dDA_writeSmallVectors_11 (lv_at hl 0 rfl) ?_
      refine lv_aload_n hx hb dDA_writeSmallVectors_13 rfl (lv_at hl 3 rfl) ?_
      refine ty_get (ci := 2) (C := "LatticeKeys$DsaSet") (TT := T_DS) (N := 17) (kd := (45, 0)) hx hb hts (wg_ft i_DS) hown hK hO k_st (nxg hc0 k_st rfl) hP (fun _ h9 => h9) rfl 1 (by decide) (hts _ (wg_t kw_305)) (fun _ h9 => h9) (cd := (1, 0, 7)) rfl dDA_writeSmallVectors_14 (fun v22 hv22 => ?_)
      obtain rfl := (show v22 = .int (nI 7) from hv22)
      refine lv_aload_n hx hb dDA_writeSmallVectors_17 rfl (lv_at hl 3 rfl) ?_
      refine ty_get (ci := 2) (C := "LatticeKeys$DsaSet") (TT := T_DS) (N := 17) (kd := (45, 0)) hx hb hts (wg_ft i_DS) hown hK hO k_st (nxg hc0 k_st rfl) hP (fun _ h9 => h9) rfl 0 (by decide) (hts _ (wg_t kw_302)) (fun _ h9 => h9) (cd := (1, 0, 8)) rfl dDA_writeSmallVectors_18 (fun v23 hv23 => ?_)
      obtain rfl := (show v23 = .int (nI 8) from hv23)
      refine mi_iadd hx hb dDA_writeSmallVectors_21 ?_
      refine mi_as (show nI (7 + 8) = nI 15 from rfl) ?_
      refine mi_ge (tgt := 119) hx hb dDA_writeSmallVectors_22 (by decide) (by omega) (by omega) (fun h21 => ?_) (fun h21 => absurd h21 (by omega))
      exact mp_vret hx hb hr hlk hP hD hS pl ⟨trivial, hO⟩ [] rfl rfl rfl (by omega) (by omega) dDA_writeSmallVectors_119
    | succ n21 ih21 =>
      intro i21 pl ls H locs hm21  hl hO hP hD hS
      refine lv_iload hx hb dDA_writeSmallVectors_11 (lv_at hl 0 rfl) ?_
      refine lv_aload_n hx hb dDA_writeSmallVectors_13 rfl (lv_at hl 3 rfl) ?_
      refine ty_get (ci := 2) (C := "LatticeKeys$DsaSet") (TT := T_DS) (N := 17) (kd := (45, 0)) hx hb hts (wg_ft i_DS) hown hK hO k_st (nxg hc0 k_st rfl) hP (fun _ h9 => h9) rfl 1 (by decide) (hts _ (wg_t kw_305)) (fun _ h9 => h9) (cd := (1, 0, 7)) rfl dDA_writeSmallVectors_14 (fun v24 hv24 => ?_)
      obtain rfl := (show v24 = .int (nI 7) from hv24)
      refine lv_aload_n hx hb dDA_writeSmallVectors_17 rfl (lv_at hl 3 rfl) ?_
      refine ty_get (ci := 2) (C := "LatticeKeys$DsaSet") (TT := T_DS) (N := 17) (kd := (45, 0)) hx hb hts (wg_ft i_DS) hown hK hO k_st (nxg hc0 k_st rfl) hP (fun _ h9 => h9) rfl 0 (by decide) (hts _ (wg_t kw_302)) (fun _ h9 => h9) (cd := (1, 0, 8)) rfl dDA_writeSmallVectors_18 (fun v25 hv25 => ?_)
      obtain rfl := (show v25 = .int (nI 8) from hv25)
      refine mi_iadd hx hb dDA_writeSmallVectors_21 ?_
      refine mi_as (show nI (7 + 8) = nI 15 from rfl) ?_
      refine mi_ge (tgt := 119) hx hb dDA_writeSmallVectors_22 (by decide) (by omega) (by omega) (fun h22 => absurd h22 (by omega)) (fun h22 => ?_)
      refine lv_iload hx hb dDA_writeSmallVectors_25 (lv_at hl 0 rfl) ?_
      refine lv_aload_n hx hb dDA_writeSmallVectors_27 rfl (lv_at hl 3 rfl) ?_
      refine ty_get (ci := 2) (C := "LatticeKeys$DsaSet") (TT := T_DS) (N := 17) (kd := (45, 0)) hx hb hts (wg_ft i_DS) hown hK hO k_st (nxg hc0 k_st rfl) hP (fun _ h9 => h9) rfl 1 (by decide) (hts _ (wg_t kw_305)) (fun _ h9 => h9) (cd := (1, 0, 7)) rfl dDA_writeSmallVectors_28 (fun v26 hv26 => ?_)
      obtain rfl := (show v26 = .int (nI 7) from hv26)
      refine mi_ge (tgt := 44) hx hb dDA_writeSmallVectors_31 (by decide) (by omega) (by omega) (fun h23 => ?_) (fun h23 => ?_)
      · refine lv_aload_n hx hb dDA_writeSmallVectors_44 rfl (lv_at hl 2 rfl) ?_
        refine ty_get (ci := 6) (C := "LatticeKeys$Dsa") (TT := T_DA) (N := 17) (kd := (15, 0)) hx hb hts (wg_ft i_DA) hown hK hO k_h0 (nxg hc0 k_h0 rfl) hP (fun _ h9 => h9) rfl 5 (by decide) (hts _ (wg_t kw_170)) (fun _ h9 => h9) (cd := (3, 3, 8)) rfl dDA_writeSmallVectors_45 (fun v27 hv27 => ?_)
        obtain ⟨r21, rfl, kr21⟩ := (show ∃ r : Nat, v27 = .ref r ∧ T r = some (3, 8) from hv27)
        refine lv_iload hx hb dDA_writeSmallVectors_48 (lv_at hl 0 rfl) ?_
        refine lv_aload_n hx hb dDA_writeSmallVectors_50 rfl (lv_at hl 3 rfl) ?_
        refine ty_get (ci := 2) (C := "LatticeKeys$DsaSet") (TT := T_DS) (N := 17) (kd := (45, 0)) hx hb hts (wg_ft i_DS) hown hK hO k_st (nxg hc0 k_st rfl) hP (fun _ h9 => h9) rfl 1 (by decide) (hts _ (wg_t kw_305)) (fun _ h9 => h9) (cd := (1, 0, 7)) rfl dDA_writeSmallVectors_51 (fun v28 hv28 => ?_)
        obtain rfl := (show v28 = .int (nI 7) from hv28)
        refine mi_isub hx hb dDA_writeSmallVectors_54 (by omega) ?_
        refine ty_aald3 hx hb hK hO kr21 (nxg hc0 kr21 rfl) hP (by omega) (by decide) dDA_writeSmallVectors_55 (fun r22 kr22 => ?_)
        refine lv_astore (lv' := [(5, .ref r22), (4, .int (nI i21)), (3, .int (nI 96)), (0, .ref h0), (1, .ref st), (2, .ref sk)]) hx hb dDA_writeSmallVectors_56 hl (by decide) rfl (fun ls hl => ?_)
        refine lv_aload_n hx hb dDA_writeSmallVectors_58 rfl (lv_at hl 3 rfl) ?_
        refine ty_get (ci := 6) (C := "LatticeKeys$Dsa") (TT := T_DA) (N := 17) (kd := (15, 0)) hx hb hts (wg_ft i_DA) hown hK hO k_h0 (nxg hc0 k_h0 rfl) hP (fun _ h9 => h9) rfl 2 (by decide) (hts _ (wg_t kw_167)) (fun _ h9 => h9) (cd := (3, 14, 0)) rfl dDA_writeSmallVectors_59 (fun v29 hv29 => ?_)
        obtain ⟨r23, rfl, kr23⟩ := (show ∃ r : Nat, v29 = .ref r ∧ T r = some (14, 0) from hv29)
        refine lv_aload_n hx hb dDA_writeSmallVectors_62 rfl (lv_at hl 4 rfl) ?_
        refine lv_aload hx hb dDA_writeSmallVectors_63 (lv_at hl 0 rfl) ?_
        refine lv_aload_n hx hb dDA_writeSmallVectors_65 rfl (lv_at hl 3 rfl) ?_
        refine ty_get (ci := 6) (C := "LatticeKeys$Dsa") (TT := T_DA) (N := 17) (kd := (15, 0)) hx hb hts (wg_ft i_DA) hown hK hO k_h0 (nxg hc0 k_h0 rfl) hP (fun _ h9 => h9) rfl 11 (by decide) (hts _ (wg_t kw_176)) (fun _ h9 => h9) (cd := (3, 1, 128)) rfl dDA_writeSmallVectors_66 (fun v30 hv30 => ?_)
        obtain ⟨r24, rfl, kr24⟩ := (show ∃ r : Nat, v30 = .ref r ∧ T r = some (1, 128) from hv30)
        refine lv_bipush (v := nI 32) hx hb dDA_writeSmallVectors_69 (by decide) ?_
        refine lv_iload hx hb dDA_writeSmallVectors_71 (lv_at hl 1 rfl) ?_
        refine mp_v (cx := []) (wr := []) hP hD hS hA [] [] rfl rfl rfl (by decide) (va_runV (As := [.ref st, .ref r22, .ref r24, .int (nI 32), .int (nI i21)]) (rest := []) F (t_SA_sampleSmall_2 l g _ T xs pl hO hU hc0 hc4 r23 st r22 r24 128 32 (nI i21) kr23 k_st kr22 kr24 (by omega) (by omega)) (cwV 5 hts (wg_app (wg_c kw_679 (wg_c kw_680 (wg_c kw_681 (wg_c kw_6 wg_n)))) kw_682) rfl rfl rfl (by decide +kernel) ⟨by decide, by decide⟩) (pp_VT (en_ok g) (ci := 7) (kd := (14, 0)) hK hO kr23 (nxg hc0 kr23 rfl) (fun _ h9 => ko1 h9) hP hD hS hA hE [] rfl rfl rfl) rfl rfl hl.1 rfl (lv_room (Nat.le_of_ble_eq_true rfl)) dDA_writeSmallVectors_73 ⟨by omega, by omega⟩) (fun  pl H locs hu21 hP hD hS => ?_)
        obtain ⟨hq21, hO⟩ := hu21
        have hP : va_P g.1 vcl ([] ++ pl) _ := hP
        have hD : va_D _ ([] ++ pl) := hD
        refine W.widen (k := 0) (n := 0) (by omega) (by omega) ?_
        refine lv_aload_n hx hb dDA_writeSmallVectors_76 rfl (lv_at hl 3 rfl) ?_
        refine ty_get (ci := 6) (C := "LatticeKeys$Dsa") (TT := T_DA) (N := 17) (kd := (15, 0)) hx hb hts (wg_ft i_DA) hown hK hO k_h0 (nxg hc0 k_h0 rfl) hP (fun _ h9 => h9) rfl 1 (by decide) (hts _ (wg_t kw_166)) (fun _ h9 => h9) (cd := (3, 12, 0)) rfl dDA_writeSmallVectors_77 (fun v31 hv31 => ?_)
        obtain ⟨r25, rfl, kr25⟩ := (show ∃ r : Nat, v31 = .ref r ∧ T r = some (12, 0) from hv31)
        refine lv_aload hx hb dDA_writeSmallVectors_80 (lv_at hl 0 rfl) ?_
        refine lv_aload_n hx hb dDA_writeSmallVectors_82 rfl (lv_at hl 4 rfl) ?_
        refine ty_get (ci := 2) (C := "LatticeKeys$DsaSet") (TT := T_DS) (N := 17) (kd := (45, 0)) hx hb hts (wg_ft i_DS) hown hK hO k_st (nxg hc0 k_st rfl) hP (fun _ h9 => h9) rfl 2 (by decide) (hts _ (wg_t kw_307)) (fun _ h9 => h9) (cd := (1, 0, 2)) rfl dDA_writeSmallVectors_83 (fun v32 hv32 => ?_)
        obtain rfl := (show v32 = .int (nI 2) from hv32)
        refine lv_aload_n hx hb dDA_writeSmallVectors_86 rfl (lv_at hl 3 rfl) ?_
        refine ty_get (ci := 6) (C := "LatticeKeys$Dsa") (TT := T_DA) (N := 17) (kd := (15, 0)) hx hb hts (wg_ft i_DA) hown hK hO k_h0 (nxg hc0 k_h0 rfl) hP (fun _ h9 => h9) rfl 10 (by decide) (hts _ (wg_t kw_175)) (fun _ h9 => h9) (cd := (3, 0, 256)) rfl dDA_writeSmallVectors_87 (fun v33 hv33 => ?_)
        obtain ⟨r26, rfl, kr26⟩ := (show ∃ r : Nat, v33 = .ref r ∧ T r = some (0, 256) from hv33)
        refine mp_v (cx := []) (wr := []) hP hD hS hA [] [] rfl rfl rfl (by decide) (va_runV (As := [.ref r22, .int (nI 2), .ref r26]) (rest := []) F (t_RG_flip_12 l g _ T xs pl hO hU hc0 r25 r22 r26 (nI 2) kr25 kr22 kr26) (cwV 3 hts (wg_app (wg_c kw_698 (wg_c kw_699 (wg_c kw_700 (wg_c kw_4 wg_n)))) kw_701) rfl rfl rfl (by decide +kernel) ⟨by decide, by decide⟩) (pp_VT (en_ok g) (ci := 4) (kd := (12, 0)) hK hO kr25 (nxg hc0 kr25 rfl) (fun _ h9 => ko1 h9) hP hD hS hA hE [] rfl rfl rfl) rfl rfl hl.1 rfl (lv_room (Nat.le_of_ble_eq_true rfl)) dDA_writeSmallVectors_90 ⟨by omega, by omega⟩) (fun  pl H locs hu22 hP hD hS => ?_)
        obtain ⟨hq22, hO⟩ := hu22
        have hP : va_P g.1 vcl ([] ++ pl) _ := hP
        have hD : va_D _ ([] ++ pl) := hD
        refine W.widen (k := 0) (n := 0) (by omega) (by omega) ?_
        refine lv_aload_n hx hb dDA_writeSmallVectors_93 rfl (lv_at hl 3 rfl) ?_
        refine ty_get (ci := 6) (C := "LatticeKeys$Dsa") (TT := T_DA) (N := 17) (kd := (15, 0)) hx hb hts (wg_ft i_DA) hown hK hO k_h0 (nxg hc0 k_h0 rfl) hP (fun _ h9 => h9) rfl 10 (by decide) (hts _ (wg_t kw_175)) (fun _ h9 => h9) (cd := (3, 0, 256)) rfl dDA_writeSmallVectors_94 (fun v34 hv34 => ?_)
        obtain ⟨r27, rfl, kr27⟩ := (show ∃ r : Nat, v34 = .ref r ∧ T r = some (0, 256) from hv34)
        refine lv_aload_n hx hb dDA_writeSmallVectors_97 rfl (lv_at hl 4 rfl) ?_
        refine ty_get (ci := 2) (C := "LatticeKeys$DsaSet") (TT := T_DS) (N := 17) (kd := (45, 0)) hx hb hts (wg_ft i_DS) hown hK hO k_st (nxg hc0 k_st rfl) hP (fun _ h9 => h9) rfl 3 (by decide) (hts _ (wg_t kw_310)) (fun _ h9 => h9) (cd := (1, 0, 3)) rfl dDA_writeSmallVectors_98 (fun v35 hv35 => ?_)
        obtain rfl := (show v35 = .int (nI 3) from hv35)
        refine lv_aload_n hx hb dDA_writeSmallVectors_101 rfl (lv_at hl 5 rfl) ?_
        refine lv_sipush (v := nI 128) hx hb dDA_writeSmallVectors_102 (by decide) ?_
        refine lv_iload_n hx hb dDA_writeSmallVectors_105 rfl (lv_at hl 2 rfl) ?_
        refine lv_iload hx hb dDA_writeSmallVectors_106 (lv_at hl 1 rfl) ?_
        refine mi_imul hx hb dDA_writeSmallVectors_108 ?_
        refine mi_iadd hx hb dDA_writeSmallVectors_109 ?_
        refine mp_v (cx := []) (wr := []) hP hD hS hA [] [] rfl rfl rfl (by decide) (va_runS (As := [.ref r27, .int (nI 3), .ref sk, .int (nI (128 + (96 * i21)))]) (rest := []) F (t_BT_pack l g _ T xs pl hO hU hc0 r27 sk 4896 3 (128 + (96 * i21)) kr27 k_sk (by omega) (by omega) (by omega)) (va_cwS 4 hts (wg_app (wg_c kw_702 (wg_c kw_645 (wg_c kw_22 wg_n))) kw_646) rfl rfl rfl (by decide +kernel) ⟨by decide, by decide⟩) (pp_S (en_ok g) hP hD hS hA hE [] rfl rfl) rfl rfl hl.1 rfl (lv_room (Nat.le_of_ble_eq_true rfl)) dDA_writeSmallVectors_110 ⟨by omega, by omega⟩) (fun  pl H locs hu23 hP hD hS => ?_)
        obtain ⟨hq23, hO⟩ := hu23
        have hP : va_P g.1 vcl ([] ++ pl) _ := hP
        have hD : va_D _ ([] ++ pl) := hD
        refine W.widen (k := 0) (n := 0) (by omega) (by omega) ?_
        refine mi_iinc (k := 1) (x := i21) (d := 1) (y := i21 + 1) (lv' := [(4, .int (nI (i21 + 1))), (5, .ref r22), (3, .int (nI 96)), (0, .ref h0), (1, .ref st), (2, .ref sk)]) hx hb dDA_writeSmallVectors_113 hl rfl (by decide) rfl (by decide) rfl (fun ls hl => ?_)
        refine lv_goto (tgt := 11) hx hb dDA_writeSmallVectors_116 (by decide) ?_
        exact ih21 (i21 + 1) pl ls H locs (by omega) (lv_sub hl [0, 2, 3, 4, 5] rfl) hO hP hD hS
      · refine lv_aload_n hx hb dDA_writeSmallVectors_34 rfl (lv_at hl 2 rfl) ?_
        refine ty_get (ci := 6) (C := "LatticeKeys$Dsa") (TT := T_DA) (N := 17) (kd := (15, 0)) hx hb hts (wg_ft i_DA) hown hK hO k_h0 (nxg hc0 k_h0 rfl) hP (fun _ h9 => h9) rfl 4 (by decide) (hts _ (wg_t kw_169)) (fun _ h9 => h9) (cd := (3, 3, 7)) rfl dDA_writeSmallVectors_35 (fun v36 hv36 => ?_)
        obtain ⟨r28, rfl, kr28⟩ := (show ∃ r : Nat, v36 = .ref r ∧ T r = some (3, 7) from hv36)
        refine lv_iload hx hb dDA_writeSmallVectors_38 (lv_at hl 0 rfl) ?_
        refine ty_aald3 hx hb hK hO kr28 (nxg hc0 kr28 rfl) hP (by omega) (by decide) dDA_writeSmallVectors_40 (fun r29 kr29 => ?_)
        refine lv_goto (tgt := 56) hx hb dDA_writeSmallVectors_41 (by decide) ?_
        refine lv_astore (lv' := [(5, .ref r29), (4, .int (nI i21)), (3, .int (nI 96)), (0, .ref h0), (1, .ref st), (2, .ref sk)]) hx hb dDA_writeSmallVectors_56 hl (by decide) rfl (fun ls hl => ?_)
        refine lv_aload_n hx hb dDA_writeSmallVectors_58 rfl (lv_at hl 3 rfl) ?_
        refine ty_get (ci := 6) (C := "LatticeKeys$Dsa") (TT := T_DA) (N := 17) (kd := (15, 0)) hx hb hts (wg_ft i_DA) hown hK hO k_h0 (nxg hc0 k_h0 rfl) hP (fun _ h9 => h9) rfl 2 (by decide) (hts _ (wg_t kw_167)) (fun _ h9 => h9) (cd := (3, 14, 0)) rfl dDA_writeSmallVectors_59 (fun v37 hv37 => ?_)
        obtain ⟨r30, rfl, kr30⟩ := (show ∃ r : Nat, v37 = .ref r ∧ T r = some (14, 0) from hv37)
        refine lv_aload_n hx hb dDA_writeSmallVectors_62 rfl (lv_at hl 4 rfl) ?_
        refine lv_aload hx hb dDA_writeSmallVectors_63 (lv_at hl 0 rfl) ?_
        refine lv_aload_n hx hb dDA_writeSmallVectors_65 rfl (lv_at hl 3 rfl) ?_
        refine ty_get (ci := 6) (C := "LatticeKeys$Dsa") (TT := T_DA) (N := 17) (kd := (15, 0)) hx hb hts (wg_ft i_DA) hown hK hO k_h0 (nxg hc0 k_h0 rfl) hP (fun _ h9 => h9) rfl 11 (by decide) (hts _ (wg_t kw_176)) (fun _ h9 => h9) (cd := (3, 1, 128)) rfl dDA_writeSmallVectors_66 (fun v38 hv38 => ?_)
        obtain ⟨r31, rfl, kr31⟩ := (show ∃ r : Nat, v38 = .ref r ∧ T r = some (1, 128) from hv38)
        refine lv_bipush (v := nI 32) hx hb dDA_writeSmallVectors_69 (by decide) ?_
        refine lv_iload hx hb dDA_writeSmallVectors_71 (lv_at hl 1 rfl) ?_
        refine mp_v (cx := []) (wr := []) hP hD hS hA [] [] rfl rfl rfl (by decide) (va_runV (As := [.ref st, .ref r29, .ref r31, .int (nI 32), .int (nI i21)]) (rest := []) F (t_SA_sampleSmall_2 l g _ T xs pl hO hU hc0 hc4 r30 st r29 r31 128 32 (nI i21) kr30 k_st kr29 kr31 (by omega) (by omega)) (cwV 5 hts (wg_app (wg_c kw_679 (wg_c kw_680 (wg_c kw_681 (wg_c kw_6 wg_n)))) kw_682) rfl rfl rfl (by decide +kernel) ⟨by decide, by decide⟩) (pp_VT (en_ok g) (ci := 7) (kd := (14, 0)) hK hO kr30 (nxg hc0 kr30 rfl) (fun _ h9 => ko1 h9) hP hD hS hA hE [] rfl rfl rfl) rfl rfl hl.1 rfl (lv_room (Nat.le_of_ble_eq_true rfl)) dDA_writeSmallVectors_73 ⟨by omega, by omega⟩) (fun  pl H locs hu24 hP hD hS => ?_)
        obtain ⟨hq24, hO⟩ := hu24
        have hP : va_P g.1 vcl ([] ++ pl) _ := hP
        have hD : va_D _ ([] ++ pl) := hD
        refine W.widen (k := 0) (n := 0) (by omega) (by omega) ?_
        refine lv_aload_n hx hb dDA_writeSmallVectors_76 rfl (lv_at hl 3 rfl) ?_
        refine ty_get (ci := 6) (C := "LatticeKeys$Dsa") (TT := T_DA) (N := 17) (kd := (15, 0)) hx hb hts (wg_ft i_DA) hown hK hO k_h0 (nxg hc0 k_h0 rfl) hP (fun _ h9 => h9) rfl 1 (by decide) (hts _ (wg_t kw_166)) (fun _ h9 => h9) (cd := (3, 12, 0)) rfl dDA_writeSmallVectors_77 (fun v39 hv39 => ?_)
        obtain ⟨r32, rfl, kr32⟩ := (show ∃ r : Nat, v39 = .ref r ∧ T r = some (12, 0) from hv39)
        refine lv_aload hx hb dDA_writeSmallVectors_80 (lv_at hl 0 rfl) ?_
        refine lv_aload_n hx hb dDA_writeSmallVectors_82 rfl (lv_at hl 4 rfl) ?_
        refine ty_get (ci := 2) (C := "LatticeKeys$DsaSet") (TT := T_DS) (N := 17) (kd := (45, 0)) hx hb hts (wg_ft i_DS) hown hK hO k_st (nxg hc0 k_st rfl) hP (fun _ h9 => h9) rfl 2 (by decide) (hts _ (wg_t kw_307)) (fun _ h9 => h9) (cd := (1, 0, 2)) rfl dDA_writeSmallVectors_83 (fun v40 hv40 => ?_)
        obtain rfl := (show v40 = .int (nI 2) from hv40)
        refine lv_aload_n hx hb dDA_writeSmallVectors_86 rfl (lv_at hl 3 rfl) ?_
        refine ty_get (ci := 6) (C := "LatticeKeys$Dsa") (TT := T_DA) (N := 17) (kd := (15, 0)) hx hb hts (wg_ft i_DA) hown hK hO k_h0 (nxg hc0 k_h0 rfl) hP (fun _ h9 => h9) rfl 10 (by decide) (hts _ (wg_t kw_175)) (fun _ h9 => h9) (cd := (3, 0, 256)) rfl dDA_writeSmallVectors_87 (fun v41 hv41 => ?_)
        obtain ⟨r33, rfl, kr33⟩ := (show ∃ r : Nat, v41 = .ref r ∧ T r = some (0, 256) from hv41)
        refine mp_v (cx := []) (wr := []) hP hD hS hA [] [] rfl rfl rfl (by decide) (va_runV (As := [.ref r29, .int (nI 2), .ref r33]) (rest := []) F (t_RG_flip_12 l g _ T xs pl hO hU hc0 r32 r29 r33 (nI 2) kr32 kr29 kr33) (cwV 3 hts (wg_app (wg_c kw_698 (wg_c kw_699 (wg_c kw_700 (wg_c kw_4 wg_n)))) kw_701) rfl rfl rfl (by decide +kernel) ⟨by decide, by decide⟩) (pp_VT (en_ok g) (ci := 4) (kd := (12, 0)) hK hO kr32 (nxg hc0 kr32 rfl) (fun _ h9 => ko1 h9) hP hD hS hA hE [] rfl rfl rfl) rfl rfl hl.1 rfl (lv_room (Nat.le_of_ble_eq_true rfl)) dDA_writeSmallVectors_90 ⟨by omega, by omega⟩) (fun  pl H locs hu25 hP hD hS => ?_)
        obtain ⟨hq25, hO⟩ := hu25
        have hP : va_P g.1 vcl ([] ++ pl) _ := hP
        have hD : va_D _ ([] ++ pl) := hD
        refine W.widen (k := 0) (n := 0) (by omega) (by omega) ?_
        refine lv_aload_n hx hb dDA_writeSmallVectors_93 rfl (lv_at hl 3 rfl) ?_
        refine ty_get (ci := 6) (C := "LatticeKeys$Dsa") (TT := T_DA) (N := 17) (kd := (15, 0)) hx hb hts (wg_ft i_DA) hown hK hO k_h0 (nxg hc0 k_h0 rfl) hP (fun _ h9 => h9) rfl 10 (by decide) (hts _ (wg_t kw_175)) (fun _ h9 => h9) (cd := (3, 0, 256)) rfl dDA_writeSmallVectors_94 (fun v42 hv42 => ?_)
        obtain ⟨r34, rfl, kr34⟩ := (show ∃ r : Nat, v42 = .ref r ∧ T r = some (0, 256) from hv42)
        refine lv_aload_n hx hb dDA_writeSmallVectors_97 rfl (lv_at hl 4 rfl) ?_
        refine ty_get (ci := 2) (C := "LatticeKeys$DsaSet") (TT := T_DS) (N := 17) (kd := (45, 0)) hx hb hts (wg_ft i_DS) hown hK hO k_st (nxg hc0 k_st rfl) hP (fun _ h9 => h9) rfl 3 (by decide) (hts _ (wg_t kw_310)) (fun _ h9 => h9) (cd := (1, 0, 3)) rfl dDA_writeSmallVectors_98 (fun v43 hv43 => ?_)
        obtain rfl := (show v43 = .int (nI 3) from hv43)
        refine lv_aload_n hx hb dDA_writeSmallVectors_101 rfl (lv_at hl 5 rfl) ?_
        refine lv_sipush (v := nI 128) hx hb dDA_writeSmallVectors_102 (by decide) ?_
        refine lv_iload_n hx hb dDA_writeSmallVectors_105 rfl (lv_at hl 2 rfl) ?_
        refine lv_iload hx hb dDA_writeSmallVectors_106 (lv_at hl 1 rfl) ?_
        refine mi_imul hx hb dDA_writeSmallVectors_108 ?_
        refine mi_iadd hx hb dDA_writeSmallVectors_109 ?_
        refine mp_v (cx := []) (wr := []) hP hD hS hA [] [] rfl rfl rfl (by decide) (va_runS (As := [.ref r34, .int (nI 3), .ref sk, .int (nI (128 + (96 * i21)))]) (rest := []) F (t_BT_pack l g _ T xs pl hO hU hc0 r34 sk 4896 3 (128 + (96 * i21)) kr34 k_sk (by omega) (by omega) (by omega)) (va_cwS 4 hts (wg_app (wg_c kw_702 (wg_c kw_645 (wg_c kw_22 wg_n))) kw_646) rfl rfl rfl (by decide +kernel) ⟨by decide, by decide⟩) (pp_S (en_ok g) hP hD hS hA hE [] rfl rfl) rfl rfl hl.1 rfl (lv_room (Nat.le_of_ble_eq_true rfl)) dDA_writeSmallVectors_110 ⟨by omega, by omega⟩) (fun  pl H locs hu26 hP hD hS => ?_)
        obtain ⟨hq26, hO⟩ := hu26
        have hP : va_P g.1 vcl ([] ++ pl) _ := hP
        have hD : va_D _ ([] ++ pl) := hD
        refine W.widen (k := 0) (n := 0) (by omega) (by omega) ?_
        refine mi_iinc (k := 1) (x := i21) (d := 1) (y := i21 + 1) (lv' := [(4, .int (nI (i21 + 1))), (5, .ref r29), (3, .int (nI 96)), (0, .ref h0), (1, .ref st), (2, .ref sk)]) hx hb dDA_writeSmallVectors_113 hl rfl (by decide) rfl (by decide) rfl (fun ls hl => ?_)
        refine lv_goto (tgt := 11) hx hb dDA_writeSmallVectors_116 (by decide) ?_
        exact ih21 (i21 + 1) pl ls H locs (by omega) (lv_sub hl [0, 2, 3, 4, 5] rfl) hO hP hD hS
  exact lp21 15 0 pl ls _ _ (by omega) (lv_sub hl [0, 1, 2, 3, 4] rfl) hO hP hD hS
set_option maxHeartbeats 400000 in
set_option maxRecDepth 100000 in
theorem t_DA_makePair_0 (l : Launch) (g : Gd) (sz : Nat) (T : Ty) (xs : List Nat) (pl : va_W) (hO : okx g T xs pl) (hU : uni T) (hc0 : clo T xs 0) (hc3 : clo T xs 3) (hc4 : clo T xs 4) (h0 st ch pk sk n : Nat) (k_h0 : T h0 = some (15, 0)) (k_st : T st = some (43, 0)) (k_ch : T ch = some (1, n)) (k_pk : T pk = some (1, 1312)) (k_sk : T sk = some (1, 2560)) (h1 : 32 ≤ n) (h2 : n < 65536)  : Met l y_DA_makePair w_DA_makePair ({ frames := 6, cells := 0, slots := 0, locals := 176 } : Room) (va_Pc [.ref h0, .ref st, .ref ch, .ref pk, .ref sk] (pr (en g) g.1 vcl sz ([] ++ pl))) (va_Qv (fun (u : va_W) => (True) ∧ okx g T xs u) (po g.1 vcl (va_A ([] ++ pl) sz) (fun (u : va_W) => [] ++ u)) (va_A ([] ++ pl) sz)) 0 0 (va_A ([] ++ pl) sz) := by
  refine mc_entry (cc := c_DA_makePair) (maxL := 7) (ret := none) (by decide) rfl (Nat.le_of_ble_eq_true rfl) ?_
  intro p e s m args below meth c ls F hr hlk hnm hsz hP hD hE hA hl
  obtain ⟨hx, hb, hml, hown, hts⟩ := id F
  have hK := hE.1
  generalize va_A ([] ++ pl) sz = A at hD hE hA ⊢
  have hS : va_S A s.heap s.heap [] := va_S.rf
  have hl : lv_has ls 7 [(0, .ref h0), (1, .ref st), (2, .ref ch), (3, .ref pk), (4, .ref sk)] := hl
  refine lv_aload_n hx hb dDA_makePair_0 rfl (lv_at hl 0 rfl) ?_
  refine ty_get (ci := 6) (C := "LatticeKeys$Dsa") (TT := T_DA) (N := 17) (kd := (15, 0)) hx hb hts (wg_ft i_DA) hown hK hO k_h0 (nxg hc0 k_h0 rfl) hP (fun _ h9 => h9) rfl 0 (by decide) (hts _ (wg_t kw_165)) (fun _ h9 => h9) (cd := (3, 10, 2)) rfl dDA_makePair_1 (fun v21 hv21 => ?_)
  obtain ⟨r21, rfl, kr21⟩ := (show ∃ r : Nat, v21 = .ref r ∧ T r = some (10, 2) from hv21)
  refine lv_iconst (v := nI 3) hx hb dDA_makePair_4 (by decide) ?_
  obtain ⟨e21, pl, hP, hD, hk21, hO⟩ := open1 hP hD hO kr21 (nxg hc3 kr21 rfl)
  obtain ⟨ln21, rt21, ps21, x21, rfl, kl21, hr21, hr22, hr23⟩ := hk21
  have kl21 : T ln21 = some (19, 2) := kl21
  obtain ⟨e22, pl, hP, hD, hk22, hO⟩ := open1 hP hD hO kl21 (nmc (knd_ne kl21 kr21 (by decide)) (nxg hc3 kl21 rfl))
  obtain ⟨f21, rfl⟩ := hk22
  have hP : va_P g.1 vcl ([(r21, .inr (3, [.ref ln21, .int (nI rt21), .int x21, .int (nI ps21)])), (ln21, .inl (g.2.1 2, 25, .inr (.inl f21)))] ++ pl) _ := hP
  have hD : va_D _ ([(r21, .inr (3, [.ref ln21, .int (nI rt21), .int x21, .int (nI ps21)])), (ln21, .inl (g.2.1 2, 25, .inr (.inl f21)))] ++ pl) := hD
  refine mp_v (cx := [(r21, .inr (3, [.ref ln21, .int (nI rt21), .int x21, .int (nI ps21)])), (ln21, .inl (g.2.1 2, 25, .inr (.inl f21)))]) (wr := []) hP hD hS hA [0, 1] [] rfl rfl rfl (by decide) (va_runV (As := [.int (nI 3)]) (rest := []) F (t_SP_start_3 l g _ T (ln21 :: (r21 :: xs)) pl hO hU  r21 ln21 rt21 ps21 x21 f21) (cwV 1 hts (wg_app (wg_c kw_669 (wg_c kw_579 (wg_c kw_580 (wg_c kw_2 wg_n)))) kw_581) rfl rfl rfl (by decide +kernel) ⟨by decide, by decide⟩) (pp_V (en_ok g) (q0 := 0) hK hP hD hS hA hE [0, 1] rfl rfl rfl rfl) rfl rfl hl.1 rfl (lv_room (Nat.le_of_ble_eq_true rfl)) dDA_makePair_5 ⟨by omega, by omega⟩) (fun  u21 H locs hu21 hP hD hS => ?_)
  obtain ⟨u22, pl⟩ := u21
  obtain ⟨hq21, hO⟩ := hu21
  have hP : va_P g.1 vcl ([(r21, .inr (3, [.ref ln21, .int (nI 136), .int (nI 31), .int (nI 0)])), (ln21, .inl (g.2.1 2, 25, .inr (.inl u22)))] ++ pl) _ := hP
  have hD : va_D _ ([(r21, .inr (3, [.ref ln21, .int (nI 136), .int (nI 31), .int (nI 0)])), (ln21, .inl (g.2.1 2, 25, .inr (.inl u22)))] ++ pl) := hD
  refine W.widen (k := 0) (n := 0) (by omega) (by omega) ?_
  refine lv_aload_n hx hb dDA_makePair_8 rfl (lv_at hl 0 rfl) ?_
  refine ty_get (ci := 6) (C := "LatticeKeys$Dsa") (TT := T_DA) (N := 17) (kd := (15, 0)) hx hb hts (wg_ft i_DA) hown hK hO k_h0 (nxg (clo_cons (clo_cons hc0 kr21 (by decide)) kl21 (by decide)) k_h0 rfl) hP (fun _ h9 => h9) rfl 0 (by decide) (hts _ (wg_t kw_165)) (fun _ h9 => h9) (cd := (3, 10, 2)) rfl dDA_makePair_9 (fun v22 hv22 => ?_)
  obtain ⟨r22, rfl, kr22⟩ := (show ∃ r : Nat, v22 = .ref r ∧ T r = some (10, 2) from hv22)
  obtain rfl : r21 = r22 := hU _ _ _ (by decide) kr21 kr22
  refine lv_aload_n hx hb dDA_makePair_12 rfl (lv_at hl 2 rfl) ?_
  refine lv_iconst (v := nI 0) hx hb dDA_makePair_13 (by decide) ?_
  refine lv_bipush (v := nI 32) hx hb dDA_makePair_14 (by decide) ?_
  refine mp_v (cx := [(r21, .inr (3, [.ref ln21, .int (nI 136), .int (nI 31), .int (nI 0)])), (ln21, .inl (g.2.1 2, 25, .inr (.inl u22)))]) (wr := []) hP hD hS hA [0, 1] [] rfl rfl rfl (by decide) (va_runV (As := [.ref ch, .int (nI 0), .int (nI 32)]) (rest := []) F (t_SP_absorb l g _ T (ln21 :: (r21 :: xs)) pl hO hU (clo_cons (clo_cons hc0 kr21 (by decide)) kl21 (by decide)) ch n 0 32 r21 ln21 136 0 (nI 31) u22 k_ch (by omega) (by omega) (by omega) (by omega)) (cwV 3 hts (wg_app (wg_c kw_670 (wg_c kw_586 (wg_c kw_587 (wg_c kw_2 wg_n)))) kw_588) rfl rfl rfl (by decide +kernel) ⟨by decide, by decide⟩) (pp_V (en_ok g) (q0 := 0) hK hP hD hS hA hE [0, 1] rfl rfl rfl rfl) rfl rfl hl.1 rfl (lv_room (Nat.le_of_ble_eq_true rfl)) dDA_makePair_16 ⟨by omega, by omega⟩) (fun  u23 H locs hu22 hP hD hS => ?_)
  obtain ⟨u24, pl⟩ := u23
  obtain ⟨hq22, hO⟩ := hu22
  obtain ⟨k21, f22⟩ := u24
  have hP : va_P g.1 vcl ([(r21, .inr (3, [.ref ln21, .int (nI 136), .int (nI 31), .int (nI k21)])), (ln21, .inl (g.2.1 2, 25, .inr (.inl f22)))] ++ pl) _ := hP
  have hD : va_D _ ([(r21, .inr (3, [.ref ln21, .int (nI 136), .int (nI 31), .int (nI k21)])), (ln21, .inl (g.2.1 2, 25, .inr (.inl f22)))] ++ pl) := hD
  have hq22 : k21 < 136 := hq22
  refine W.widen (k := 0) (n := 0) (by omega) (by omega) ?_
  refine lv_aload_n hx hb dDA_makePair_19 rfl (lv_at hl 0 rfl) ?_
  refine ty_get (ci := 6) (C := "LatticeKeys$Dsa") (TT := T_DA) (N := 17) (kd := (15, 0)) hx hb hts (wg_ft i_DA) hown hK hO k_h0 (nxg (clo_cons (clo_cons hc0 kr21 (by decide)) kl21 (by decide)) k_h0 rfl) hP (fun _ h9 => h9) rfl 0 (by decide) (hts _ (wg_t kw_165)) (fun _ h9 => h9) (cd := (3, 10, 2)) rfl dDA_makePair_20 (fun v23 hv23 => ?_)
  obtain ⟨r23, rfl, kr23⟩ := (show ∃ r : Nat, v23 = .ref r ∧ T r = some (10, 2) from hv23)
  obtain rfl : r21 = r23 := hU _ _ _ (by decide) kr21 kr23
  refine lv_aload_n hx hb dDA_makePair_23 rfl (lv_at hl 1 rfl) ?_
  refine ty_get (ci := 2) (C := "LatticeKeys$DsaSet") (TT := T_DS) (N := 17) (kd := (43, 0)) hx hb hts (wg_ft i_DS) hown hK hO k_st (nxg (clo_cons (clo_cons hc0 kr21 (by decide)) kl21 (by decide)) k_st rfl) hP (fun _ h9 => h9) rfl 0 (by decide) (hts _ (wg_t kw_302)) (fun _ h9 => h9) (cd := (1, 0, 4)) rfl dDA_makePair_24 (fun v24 hv24 => ?_)
  obtain rfl := (show v24 = .int (nI 4) from hv24)
  refine mp_v (cx := [(r21, .inr (3, [.ref ln21, .int (nI 136), .int (nI 31), .int (nI k21)])), (ln21, .inl (g.2.1 2, 25, .inr (.inl f22)))]) (wr := []) hP hD hS hA [0, 1] [] rfl rfl rfl (by decide) (va_runV (As := [.int (nI 4)]) (rest := []) F (t_SP_absorbByte l g _ T (ln21 :: (r21 :: xs)) pl hO hU  (nI 4) r21 ln21 136 k21 (nI 31) f22 (by omega) (by omega)) (cwV 1 hts (wg_app (wg_c kw_671 (wg_c kw_590 (wg_c kw_591 (wg_c kw_2 wg_n)))) kw_592) rfl rfl rfl (by decide +kernel) ⟨by decide, by decide⟩) (pp_V (en_ok g) (q0 := 0) hK hP hD hS hA hE [0, 1] rfl rfl rfl rfl) rfl rfl hl.1 rfl (lv_room (Nat.le_of_ble_eq_true rfl)) dDA_makePair_27 ⟨by omega, by omega⟩) (fun  u25 H locs hu23 hP hD hS => ?_)
  obtain ⟨u26, pl⟩ := u25
  obtain ⟨hq23, hO⟩ := hu23
  obtain ⟨k22, f23⟩ := u26
  have hP : va_P g.1 vcl ([(r21, .inr (3, [.ref ln21, .int (nI 136), .int (nI 31), .int (nI k22)])), (ln21, .inl (g.2.1 2, 25, .inr (.inl f23)))] ++ pl) _ := hP
  have hD : va_D _ ([(r21, .inr (3, [.ref ln21, .int (nI 136), .int (nI 31), .int (nI k22)])), (ln21, .inl (g.2.1 2, 25, .inr (.inl f23)))] ++ pl) := hD
  have hq23 : k22 < 136 := hq23
  refine W.widen (k := 0) (n := 0) (by omega) (by omega) ?_
  refine lv_aload_n hx hb dDA_makePair_30 rfl (lv_at hl 0 rfl) ?_
  refine ty_get (ci := 6) (C := "LatticeKeys$Dsa") (TT := T_DA) (N := 17) (kd := (15, 0)) hx hb hts (wg_ft i_DA) hown hK hO k_h0 (nxg (clo_cons (clo_cons hc0 kr21 (by decide)) kl21 (by decide)) k_h0 rfl) hP (fun _ h9 => h9) rfl 0 (by decide) (hts _ (wg_t kw_165)) (fun _ h9 => h9) (cd := (3, 10, 2)) rfl dDA_makePair_31 (fun v25 hv25 => ?_)
  obtain ⟨r24, rfl, kr24⟩ := (show ∃ r : Nat, v25 = .ref r ∧ T r = some (10, 2) from hv25)
  obtain rfl : r21 = r24 := hU _ _ _ (by decide) kr21 kr24
  refine lv_aload_n hx hb dDA_makePair_34 rfl (lv_at hl 1 rfl) ?_
  refine ty_get (ci := 2) (C := "LatticeKeys$DsaSet") (TT := T_DS) (N := 17) (kd := (43, 0)) hx hb hts (wg_ft i_DS) hown hK hO k_st (nxg (clo_cons (clo_cons hc0 kr21 (by decide)) kl21 (by decide)) k_st rfl) hP (fun _ h9 => h9) rfl 1 (by decide) (hts _ (wg_t kw_305)) (fun _ h9 => h9) (cd := (1, 0, 4)) rfl dDA_makePair_35 (fun v26 hv26 => ?_)
  obtain rfl := (show v26 = .int (nI 4) from hv26)
  refine mp_v (cx := [(r21, .inr (3, [.ref ln21, .int (nI 136), .int (nI 31), .int (nI k22)])), (ln21, .inl (g.2.1 2, 25, .inr (.inl f23)))]) (wr := []) hP hD hS hA [0, 1] [] rfl rfl rfl (by decide) (va_runV (As := [.int (nI 4)]) (rest := []) F (t_SP_absorbByte l g _ T (ln21 :: (r21 :: xs)) pl hO hU  (nI 4) r21 ln21 136 k22 (nI 31) f23 (by omega) (by omega)) (cwV 1 hts (wg_app (wg_c kw_671 (wg_c kw_590 (wg_c kw_591 (wg_c kw_2 wg_n)))) kw_592) rfl rfl rfl (by decide +kernel) ⟨by decide, by decide⟩) (pp_V (en_ok g) (q0 := 0) hK hP hD hS hA hE [0, 1] rfl rfl rfl rfl) rfl rfl hl.1 rfl (lv_room (Nat.le_of_ble_eq_true rfl)) dDA_makePair_38 ⟨by omega, by omega⟩) (fun  u27 H locs hu24 hP hD hS => ?_)
  obtain ⟨u28, pl⟩ := u27
  obtain ⟨hq24, hO⟩ := hu24
  obtain ⟨k23, f24⟩ := u28
  have hP : va_P g.1 vcl ([(r21, .inr (3, [.ref ln21, .int (nI 136), .int (nI 31), .int (nI k23)])), (ln21, .inl (g.2.1 2, 25, .inr (.inl f24)))] ++ pl) _ := hP
  have hD : va_D _ ([(r21, .inr (3, [.ref ln21, .int (nI 136), .int (nI 31), .int (nI k23)])), (ln21, .inl (g.2.1 2, 25, .inr (.inl f24)))] ++ pl) := hD
  have hq24 : k23 < 136 := hq24
  refine W.widen (k := 0) (n := 0) (by omega) (by omega) ?_
  refine lv_aload_n hx hb dDA_makePair_41 rfl (lv_at hl 0 rfl) ?_
  refine ty_get (ci := 6) (C := "LatticeKeys$Dsa") (TT := T_DA) (N := 17) (kd := (15, 0)) hx hb hts (wg_ft i_DA) hown hK hO k_h0 (nxg (clo_cons (clo_cons hc0 kr21 (by decide)) kl21 (by decide)) k_h0 rfl) hP (fun _ h9 => h9) rfl 0 (by decide) (hts _ (wg_t kw_165)) (fun _ h9 => h9) (cd := (3, 10, 2)) rfl dDA_makePair_42 (fun v27 hv27 => ?_)
  obtain ⟨r25, rfl, kr25⟩ := (show ∃ r : Nat, v27 = .ref r ∧ T r = some (10, 2) from hv27)
  obtain rfl : r21 = r25 := hU _ _ _ (by decide) kr21 kr25
  refine mp_v (cx := [(r21, .inr (3, [.ref ln21, .int (nI 136), .int (nI 31), .int (nI k23)])), (ln21, .inl (g.2.1 2, 25, .inr (.inl f24)))]) (wr := []) hP hD hS hA [0, 1] [] rfl rfl rfl (by decide) (va_runV (As := []) (rest := []) F (t_SP_finish l g _ T (ln21 :: (r21 :: xs)) pl hO hU  r21 ln21 136 k23 (nI 31) f24 (by omega) (by omega)) (cwV 0 hts (wg_app (wg_c kw_672 (wg_c kw_611 (wg_c kw_612 (wg_c kw_2 wg_n)))) kw_613) rfl rfl rfl (by decide +kernel) ⟨by decide, by decide⟩) (pp_V (en_ok g) (q0 := 0) hK hP hD hS hA hE [0, 1] rfl rfl rfl rfl) rfl rfl hl.1 rfl (lv_room (Nat.le_of_ble_eq_true rfl)) dDA_makePair_45 ⟨by omega, by omega⟩) (fun  u29 H locs hu25 hP hD hS => ?_)
  obtain ⟨u30, pl⟩ := u29
  obtain ⟨hq25, hO⟩ := hu25
  have hP : va_P g.1 vcl ([(r21, .inr (3, [.ref ln21, .int (nI 136), .int (nI 31), .int (nI 136)])), (ln21, .inl (g.2.1 2, 25, .inr (.inl u30)))] ++ pl) _ := hP
  have hD : va_D _ ([(r21, .inr (3, [.ref ln21, .int (nI 136), .int (nI 31), .int (nI 136)])), (ln21, .inl (g.2.1 2, 25, .inr (.inl u30)))] ++ pl) := hD
  refine W.widen (k := 0) (n := 0) (by omega) (by omega) ?_
  refine lv_aload_n hx hb dDA_makePair_48 rfl (lv_at hl 0 rfl) ?_
  refine ty_get (ci := 6) (C := "LatticeKeys$Dsa") (TT := T_DA) (N := 17) (kd := (15, 0)) hx hb hts (wg_ft i_DA) hown hK hO k_h0 (nxg (clo_cons (clo_cons hc0 kr21 (by decide)) kl21 (by decide)) k_h0 rfl) hP (fun _ h9 => h9) rfl 0 (by decide) (hts _ (wg_t kw_165)) (fun _ h9 => h9) (cd := (3, 10, 2)) rfl dDA_makePair_49 (fun v28 hv28 => ?_)
  obtain ⟨r26, rfl, kr26⟩ := (show ∃ r : Nat, v28 = .ref r ∧ T r = some (10, 2) from hv28)
  obtain rfl : r21 = r26 := hU _ _ _ (by decide) kr21 kr26
  refine lv_aload_n hx hb dDA_makePair_52 rfl (lv_at hl 0 rfl) ?_
  refine ty_get (ci := 6) (C := "LatticeKeys$Dsa") (TT := T_DA) (N := 17) (kd := (15, 0)) hx hb hts (wg_ft i_DA) hown hK hO k_h0 (nxg (clo_cons (clo_cons hc0 kr21 (by decide)) kl21 (by decide)) k_h0 rfl) hP (fun _ h9 => h9) rfl 11 (by decide) (hts _ (wg_t kw_176)) (fun _ h9 => h9) (cd := (3, 1, 128)) rfl dDA_makePair_53 (fun v29 hv29 => ?_)
  obtain ⟨r27, rfl, kr27⟩ := (show ∃ r : Nat, v29 = .ref r ∧ T r = some (1, 128) from hv29)
  refine lv_iconst (v := nI 0) hx hb dDA_makePair_56 (by decide) ?_
  refine lv_sipush (v := nI 128) hx hb dDA_makePair_57 (by decide) ?_
  refine mp_v (cx := [(r21, .inr (3, [.ref ln21, .int (nI 136), .int (nI 31), .int (nI 136)])), (ln21, .inl (g.2.1 2, 25, .inr (.inl u30)))]) (wr := []) hP hD hS hA [0, 1] [] rfl rfl rfl (by decide) (va_runV (As := [.ref r27, .int (nI 0), .int (nI 128)]) (rest := []) F (t_SP_squeeze l g _ T (ln21 :: (r21 :: xs)) pl hO hU (clo_cons (clo_cons hc0 kr21 (by decide)) kl21 (by decide)) r27 128 0 128 r21 ln21 136 136 (nI 31) u30 kr27 (by omega) (by omega) (by omega) (by omega)) (cwV 3 hts (wg_app (wg_c kw_673 (wg_c kw_615 (wg_c kw_616 (wg_c kw_2 wg_n)))) kw_617) rfl rfl rfl (by decide +kernel) ⟨by decide, by decide⟩) (pp_V (en_ok g) (q0 := 0) hK hP hD hS hA hE [0, 1] rfl rfl rfl rfl) rfl rfl hl.1 rfl (lv_room (Nat.le_of_ble_eq_true rfl)) dDA_makePair_60 ⟨by omega, by omega⟩) (fun  u31 H locs hu26 hP hD hS => ?_)
  obtain ⟨u32, pl⟩ := u31
  obtain ⟨hq26, hO⟩ := hu26
  obtain ⟨k24, f25⟩ := u32
  have hP : va_P g.1 vcl ([(r21, .inr (3, [.ref ln21, .int (nI 136), .int (nI 31), .int (nI k24)])), (ln21, .inl (g.2.1 2, 25, .inr (.inl f25)))] ++ pl) _ := hP
  have hD : va_D _ ([(r21, .inr (3, [.ref ln21, .int (nI 136), .int (nI 31), .int (nI k24)])), (ln21, .inl (g.2.1 2, 25, .inr (.inl f25)))] ++ pl) := hD
  have hq26 : k24 ≤ 136 := hq26
  refine W.widen (k := 0) (n := 0) (by omega) (by omega) ?_
  refine lv_aload_n hx hb dDA_makePair_63 rfl (lv_at hl 0 rfl) ?_
  refine ty_get (ci := 6) (C := "LatticeKeys$Dsa") (TT := T_DA) (N := 17) (kd := (15, 0)) hx hb hts (wg_ft i_DA) hown hK hO k_h0 (nxg (clo_cons (clo_cons hc0 kr21 (by decide)) kl21 (by decide)) k_h0 rfl) hP (fun _ h9 => h9) rfl 11 (by decide) (hts _ (wg_t kw_176)) (fun _ h9 => h9) (cd := (3, 1, 128)) rfl dDA_makePair_64 (fun v30 hv30 => ?_)
  obtain ⟨r28, rfl, kr28⟩ := (show ∃ r : Nat, v30 = .ref r ∧ T r = some (1, 128) from hv30)
  refine lv_iconst (v := nI 0) hx hb dDA_makePair_67 (by decide) ?_
  refine lv_aload_n hx hb dDA_makePair_68 rfl (lv_at hl 3 rfl) ?_
  refine lv_iconst (v := nI 0) hx hb dDA_makePair_69 (by decide) ?_
  refine lv_bipush (v := nI 32) hx hb dDA_makePair_70 (by decide) ?_
  refine ty_copyb11 hx hb (hml.trans hl.1.symm) hown (hts _ (wg_t kw_674)) (hts _ (wg_t kw_526)) (hts _ (wg_t kw_525)) (hts _ (wg_t kw_19)) hK hO kr28 (nxg (clo_cons (clo_cons hc0 kr21 (by decide)) kl21 (by decide)) kr28 rfl) k_pk (nxg (clo_cons (clo_cons hc0 kr21 (by decide)) kl21 (by decide)) k_pk rfl) hP hD hS (sp := 0) (dp := 0) (n := 32) (by omega) (by omega) (by omega) (by decide) (Nat.le_of_ble_eq_true rfl) dDA_makePair_72 (fun pl H locs hO hP hD hS => ?_)
  refine lv_aload_n hx hb dDA_makePair_75 rfl (lv_at hl 0 rfl) ?_
  refine ty_get (ci := 6) (C := "LatticeKeys$Dsa") (TT := T_DA) (N := 17) (kd := (15, 0)) hx hb hts (wg_ft i_DA) hown hK hO k_h0 (nxg (clo_cons (clo_cons hc0 kr21 (by decide)) kl21 (by decide)) k_h0 rfl) hP (fun _ h9 => h9) rfl 11 (by decide) (hts _ (wg_t kw_176)) (fun _ h9 => h9) (cd := (3, 1, 128)) rfl dDA_makePair_76 (fun v31 hv31 => ?_)
  obtain ⟨r29, rfl, kr29⟩ := (show ∃ r : Nat, v31 = .ref r ∧ T r = some (1, 128) from hv31)
  refine lv_iconst (v := nI 0) hx hb dDA_makePair_79 (by decide) ?_
  refine lv_aload hx hb dDA_makePair_80 (lv_at hl 4 rfl) ?_
  refine lv_iconst (v := nI 0) hx hb dDA_makePair_82 (by decide) ?_
  refine lv_bipush (v := nI 32) hx hb dDA_makePair_83 (by decide) ?_
  refine ty_copyb11 hx hb (hml.trans hl.1.symm) hown (hts _ (wg_t kw_674)) (hts _ (wg_t kw_526)) (hts _ (wg_t kw_525)) (hts _ (wg_t kw_19)) hK hO kr29 (nxg (clo_cons (clo_cons hc0 kr21 (by decide)) kl21 (by decide)) kr29 rfl) k_sk (nxg (clo_cons (clo_cons hc0 kr21 (by decide)) kl21 (by decide)) k_sk rfl) hP hD hS (sp := 0) (dp := 0) (n := 32) (by omega) (by omega) (by omega) (by decide) (Nat.le_of_ble_eq_true rfl) dDA_makePair_85 (fun pl H locs hO hP hD hS => ?_)
  refine lv_aload_n hx hb dDA_makePair_88 rfl (lv_at hl 0 rfl) ?_
  refine ty_get (ci := 6) (C := "LatticeKeys$Dsa") (TT := T_DA) (N := 17) (kd := (15, 0)) hx hb hts (wg_ft i_DA) hown hK hO k_h0 (nxg (clo_cons (clo_cons hc0 kr21 (by decide)) kl21 (by decide)) k_h0 rfl) hP (fun _ h9 => h9) rfl 11 (by decide) (hts _ (wg_t kw_176)) (fun _ h9 => h9) (cd := (3, 1, 128)) rfl dDA_makePair_89 (fun v32 hv32 => ?_)
  obtain ⟨r30, rfl, kr30⟩ := (show ∃ r : Nat, v32 = .ref r ∧ T r = some (1, 128) from hv32)
  refine lv_bipush (v := nI 96) hx hb dDA_makePair_92 (by decide) ?_
  refine lv_aload hx hb dDA_makePair_94 (lv_at hl 4 rfl) ?_
  refine lv_bipush (v := nI 32) hx hb dDA_makePair_96 (by decide) ?_
  refine lv_bipush (v := nI 32) hx hb dDA_makePair_98 (by decide) ?_
  refine ty_copyb11 hx hb (hml.trans hl.1.symm) hown (hts _ (wg_t kw_674)) (hts _ (wg_t kw_526)) (hts _ (wg_t kw_525)) (hts _ (wg_t kw_19)) hK hO kr30 (nxg (clo_cons (clo_cons hc0 kr21 (by decide)) kl21 (by decide)) kr30 rfl) k_sk (nxg (clo_cons (clo_cons hc0 kr21 (by decide)) kl21 (by decide)) k_sk rfl) hP hD hS (sp := 96) (dp := 32) (n := 32) (by omega) (by omega) (by omega) (by decide) (Nat.le_of_ble_eq_true rfl) dDA_makePair_100 (fun pl H locs hO hP hD hS => ?_)
  refine lv_aload_n hx hb dDA_makePair_103 rfl (lv_at hl 0 rfl) ?_
  refine lv_aload_n hx hb dDA_makePair_104 rfl (lv_at hl 1 rfl) ?_
  refine lv_aload hx hb dDA_makePair_105 (lv_at hl 4 rfl) ?_
  refine mp_v (cx := []) (wr := [(r21, .inr (3, [.ref ln21, .int (nI 136), .int (nI 31), .int (nI k24)])), (ln21, .inl (g.2.1 2, 25, .inr (.inl f25)))]) hP hD hS hA [] [0, 1] rfl rfl rfl (by decide) (va_runV (As := [.ref st, .ref sk]) (rest := []) F (t_DA_writeSmallVectors_0 l g _ T (ln21 :: (r21 :: xs)) pl hO hU (clo_cons (clo_cons hc0 kr21 (by decide)) kl21 (by decide)) (clo_cons (clo_cons hc4 kr21 (by decide)) kl21 (by decide)) h0 st sk k_h0 k_st k_sk) (cwV 2 hts (wg_app (wg_c kw_675 (wg_c kw_677 (wg_c ks_11 (wg_c kw_5 wg_n)))) kw_678) rfl rfl rfl (by decide +kernel) ⟨by decide, by decide⟩) (pp_VT (en_ok g) (ci := 6) (kd := (15, 0)) hK hO k_h0 (nxg (clo_cons (clo_cons hc0 kr21 (by decide)) kl21 (by decide)) k_h0 rfl) (fun _ h9 => ko1 h9) hP hD hS hA hE [] rfl rfl rfl) rfl rfl hl.1 rfl (lv_room (Nat.le_of_ble_eq_true rfl)) dDA_makePair_107 ⟨by omega, by omega⟩) (fun  pl H locs hu27 hP hD hS => ?_)
  obtain ⟨hq27, hO⟩ := hu27
  have hP : va_P g.1 vcl ([(r21, .inr (3, [.ref ln21, .int (nI 136), .int (nI 31), .int (nI k24)])), (ln21, .inl (g.2.1 2, 25, .inr (.inl f25)))] ++ pl) _ := hP
  have hD : va_D _ ([(r21, .inr (3, [.ref ln21, .int (nI 136), .int (nI 31), .int (nI k24)])), (ln21, .inl (g.2.1 2, 25, .inr (.inl f25)))] ++ pl) := hD
  refine W.widen (k := 0) (n := 0) (by omega) (by omega) ?_
  refine lv_aload_n hx hb dDA_makePair_110 rfl (lv_at hl 0 rfl) ?_
  refine ty_get (ci := 6) (C := "LatticeKeys$Dsa") (TT := T_DA) (N := 17) (kd := (15, 0)) hx hb hts (wg_ft i_DA) hown hK hO k_h0 (nxg (clo_cons (clo_cons hc0 kr21 (by decide)) kl21 (by decide)) k_h0 rfl) hP (fun _ h9 => h9) rfl 2 (by decide) (hts _ (wg_t kw_167)) (fun _ h9 => h9) (cd := (3, 14, 0)) rfl dDA_makePair_111 (fun v33 hv33 => ?_)
  obtain ⟨r31, rfl, kr31⟩ := (show ∃ r : Nat, v33 = .ref r ∧ T r = some (14, 0) from hv33)
  refine lv_aload_n hx hb dDA_makePair_114 rfl (lv_at hl 1 rfl) ?_
  refine lv_aload_n hx hb dDA_makePair_115 rfl (lv_at hl 3 rfl) ?_
  refine lv_aload_n hx hb dDA_makePair_116 rfl (lv_at hl 0 rfl) ?_
  refine ty_get (ci := 6) (C := "LatticeKeys$Dsa") (TT := T_DA) (N := 17) (kd := (15, 0)) hx hb hts (wg_ft i_DA) hown hK hO k_h0 (nxg (clo_cons (clo_cons hc0 kr21 (by decide)) kl21 (by decide)) k_h0 rfl) hP (fun _ h9 => h9) rfl 3 (by decide) (hts _ (wg_t kw_168)) (fun _ h9 => h9) (cd := (3, 3, 56)) rfl dDA_makePair_117 (fun v34 hv34 => ?_)
  obtain ⟨r32, rfl, kr32⟩ := (show ∃ r : Nat, v34 = .ref r ∧ T r = some (3, 56) from hv34)
  refine mp_v (cx := []) (wr := [(r21, .inr (3, [.ref ln21, .int (nI 136), .int (nI 31), .int (nI k24)])), (ln21, .inl (g.2.1 2, 25, .inr (.inl f25)))]) hP hD hS hA [] [0, 1] rfl rfl rfl (by decide) (va_runV (As := [.ref st, .ref pk, .ref r32]) (rest := []) F (t_SA_expandMatrix_0 l g _ T (ln21 :: (r21 :: xs)) pl hO hU (clo_cons (clo_cons hc0 kr21 (by decide)) kl21 (by decide)) (clo_cons (clo_cons hc4 kr21 (by decide)) kl21 (by decide)) r31 st pk r32 1312 kr31 k_st k_pk kr32 (by omega) (by omega)) (cwV 3 hts (wg_app (wg_c kw_703 (wg_c kw_704 (wg_c kw_705 (wg_c kw_6 wg_n)))) kw_706) rfl rfl rfl (by decide +kernel) ⟨by decide, by decide⟩) (pp_VT (en_ok g) (ci := 7) (kd := (14, 0)) hK hO kr31 (nxg (clo_cons (clo_cons hc0 kr21 (by decide)) kl21 (by decide)) kr31 rfl) (fun _ h9 => ko1 h9) hP hD hS hA hE [] rfl rfl rfl) rfl rfl hl.1 rfl (lv_room (Nat.le_of_ble_eq_true rfl)) dDA_makePair_120 ⟨by omega, by omega⟩) (fun  pl H locs hu28 hP hD hS => ?_)
  obtain ⟨hq28, hO⟩ := hu28
  have hP : va_P g.1 vcl ([(r21, .inr (3, [.ref ln21, .int (nI 136), .int (nI 31), .int (nI k24)])), (ln21, .inl (g.2.1 2, 25, .inr (.inl f25)))] ++ pl) _ := hP
  have hD : va_D _ ([(r21, .inr (3, [.ref ln21, .int (nI 136), .int (nI 31), .int (nI k24)])), (ln21, .inl (g.2.1 2, 25, .inr (.inl f25)))] ++ pl) := hD
  refine W.widen (k := 0) (n := 0) (by omega) (by omega) ?_
  refine lv_iconst (v := nI 0) hx hb dDA_makePair_123 (by decide) ?_
  refine lv_istore (lv' := [(5, .int (nI 0)), (0, .ref h0), (1, .ref st), (2, .ref ch), (3, .ref pk), (4, .ref sk)]) hx hb dDA_makePair_124 hl (by decide) rfl (fun ls hl => ?_)
  have hO := close1 (e := .inl (g.2.1 2, 25, .inr (.inl f25))) hO kl21 ⟨_, rfl⟩
  have hO := close1 (e := .inr (3, [.ref ln21, .int (nI 136), .int (nI 31), .int (nI k24)])) hO kr21 ⟨_, _, _, _, rfl, kl21, by omega, by omega, by omega⟩
  have hO : okx g T xs ((r21, .inr (3, [.ref ln21, .int (nI 136), .int (nI 31), .int (nI k24)])) :: (ln21, .inl (g.2.1 2, 25, .inr (.inl f25))) :: pl) := hO
  have hP : va_P g.1 vcl ([] ++ ((r21, .inr (3, [.ref ln21, .int (nI 136), .int (nI 31), .int (nI k24)])) :: (ln21, .inl (g.2.1 2, 25, .inr (.inl f25))) :: pl)) _ := hP
  have hD : va_D _ ([] ++ ((r21, .inr (3, [.ref ln21, .int (nI 136), .int (nI 31), .int (nI k24)])) :: (ln21, .inl (g.2.1 2, 25, .inr (.inl f25))) :: pl)) := hD
  generalize ((r21, .inr (3, [.ref ln21, .int (nI 136), .int (nI 31), .int (nI k24)])) :: (ln21, .inl (g.2.1 2, 25, .inr (.inl f25))) :: pl) = pl at hO hP hD
  have lp21 : ∀ (n21 : Nat) (i21 : Nat) (pl : va_W) (ls : Array Slot) (H : Heap) (locs : List Loc), n21 + i21 = 4 → lv_has ls 7 [(5, .int (nI i21)), (0, .ref h0), (1, .ref st), (3, .ref pk), (4, .ref sk)] → okx g T xs pl → va_P g.1 vcl ([] ++ pl) H → va_D A ([] ++ pl) → va_S A s.heap H locs → W p l e ({ frames := 6, cells := 0, slots := 0, locals := 176 } : Room) s m args below meth c H locs 0 0 (MQ below (va_Qv (fun (u : va_W) => (True) ∧ okx g T xs u) (po g.1 vcl A (fun (u : va_W) => [] ++ u)) A) args s 0 0 A) (F0 m 126 ls []) := by
    intro n21
    induction n21 with
    | zero =>
      intro i21 pl ls H locs hm21  hl hO hP hD hS
      refine lv_iload hx hb dDA_makePair_126 (lv_at hl 0 rfl) ?_
      refine lv_aload_n hx hb dDA_makePair_128 rfl (lv_at hl 2 rfl) ?_
      refine ty_get (ci := 2) (C := "LatticeKeys$DsaSet") (TT := T_DS) (N := 17) (kd := (43, 0)) hx hb hts (wg_ft i_DS) hown hK hO k_st (nxg hc0 k_st rfl) hP (fun _ h9 => h9) rfl 1 (by decide) (hts _ (wg_t kw_305)) (fun _ h9 => h9) (cd := (1, 0, 4)) rfl dDA_makePair_129 (fun v35 hv35 => ?_)
      obtain rfl := (show v35 = .int (nI 4) from hv35)
      refine mi_ge (tgt := 155) hx hb dDA_makePair_132 (by decide) (by omega) (by omega) (fun h21 => ?_) (fun h21 => absurd h21 (by omega))
      refine lv_sipush (v := nI 128) hx hb dDA_makePair_155 (by decide) ?_
      refine lv_bipush (v := nI 32) hx hb dDA_makePair_158 (by decide) ?_
      refine lv_aload_n hx hb dDA_makePair_160 rfl (lv_at hl 2 rfl) ?_
      refine ty_get (ci := 2) (C := "LatticeKeys$DsaSet") (TT := T_DS) (N := 17) (kd := (43, 0)) hx hb hts (wg_ft i_DS) hown hK hO k_st (nxg hc0 k_st rfl) hP (fun _ h9 => h9) rfl 3 (by decide) (hts _ (wg_t kw_310)) (fun _ h9 => h9) (cd := (1, 0, 3)) rfl dDA_makePair_161 (fun v36 hv36 => ?_)
      obtain rfl := (show v36 = .int (nI 3) from hv36)
      refine mi_imul hx hb dDA_makePair_164 ?_
      refine mi_as (show nI (32 * 3) = nI 96 from rfl) ?_
      refine lv_aload_n hx hb dDA_makePair_165 rfl (lv_at hl 2 rfl) ?_
      refine ty_get (ci := 2) (C := "LatticeKeys$DsaSet") (TT := T_DS) (N := 17) (kd := (43, 0)) hx hb hts (wg_ft i_DS) hown hK hO k_st (nxg hc0 k_st rfl) hP (fun _ h9 => h9) rfl 0 (by decide) (hts _ (wg_t kw_302)) (fun _ h9 => h9) (cd := (1, 0, 4)) rfl dDA_makePair_166 (fun v37 hv37 => ?_)
      obtain rfl := (show v37 = .int (nI 4) from hv37)
      refine lv_aload_n hx hb dDA_makePair_169 rfl (lv_at hl 2 rfl) ?_
      refine ty_get (ci := 2) (C := "LatticeKeys$DsaSet") (TT := T_DS) (N := 17) (kd := (43, 0)) hx hb hts (wg_ft i_DS) hown hK hO k_st (nxg hc0 k_st rfl) hP (fun _ h9 => h9) rfl 1 (by decide) (hts _ (wg_t kw_305)) (fun _ h9 => h9) (cd := (1, 0, 4)) rfl dDA_makePair_170 (fun v38 hv38 => ?_)
      obtain rfl := (show v38 = .int (nI 4) from hv38)
      refine mi_iadd hx hb dDA_makePair_173 ?_
      refine mi_as (show nI (4 + 4) = nI 8 from rfl) ?_
      refine mi_imul hx hb dDA_makePair_174 ?_
      refine mi_as (show nI (96 * 8) = nI 768 from rfl) ?_
      refine mi_iadd hx hb dDA_makePair_175 ?_
      refine mi_as (show nI (128 + 768) = nI 896 from rfl) ?_
      refine lv_istore (lv' := [(5, .int (nI 896)), (0, .ref h0), (1, .ref st), (3, .ref pk), (4, .ref sk)]) hx hb dDA_makePair_176 hl (by decide) rfl (fun ls hl => ?_)
      refine lv_iconst (v := nI 0) hx hb dDA_makePair_178 (by decide) ?_
      refine lv_istore (lv' := [(6, .int (nI 0)), (5, .int (nI 896)), (0, .ref h0), (1, .ref st), (3, .ref pk), (4, .ref sk)]) hx hb dDA_makePair_179 hl (by decide) rfl (fun ls hl => ?_)
      have lp22 : ∀ (n22 : Nat) (i22 : Nat) (pl : va_W) (ls : Array Slot) (H : Heap) (locs : List Loc), n22 + i22 = 4 → lv_has ls 7 [(6, .int (nI i22)), (5, .int (nI 896)), (0, .ref h0), (1, .ref st), (3, .ref pk), (4, .ref sk)] → okx g T xs pl → va_P g.1 vcl ([] ++ pl) H → va_D A ([] ++ pl) → va_S A s.heap H locs → W p l e ({ frames := 6, cells := 0, slots := 0, locals := 176 } : Room) s m args below meth c H locs 0 0 (MQ below (va_Qv (fun (u : va_W) => (True) ∧ okx g T xs u) (po g.1 vcl A (fun (u : va_W) => [] ++ u)) A) args s 0 0 A) (F0 m 181 ls []) := by
        intro n22
        induction n22 with
        | zero =>
          intro i22 pl ls H locs hm22  hl hO hP hD hS
          refine lv_iload hx hb dDA_makePair_181 (lv_at hl 0 rfl) ?_
          refine lv_aload_n hx hb dDA_makePair_183 rfl (lv_at hl 3 rfl) ?_
          refine ty_get (ci := 2) (C := "LatticeKeys$DsaSet") (TT := T_DS) (N := 17) (kd := (43, 0)) hx hb hts (wg_ft i_DS) hown hK hO k_st (nxg hc0 k_st rfl) hP (fun _ h9 => h9) rfl 0 (by decide) (hts _ (wg_t kw_302)) (fun _ h9 => h9) (cd := (1, 0, 4)) rfl dDA_makePair_184 (fun v39 hv39 => ?_)
          obtain rfl := (show v39 = .int (nI 4) from hv39)
          refine mi_ge (tgt := 295) hx hb dDA_makePair_187 (by decide) (by omega) (by omega) (fun h22 => ?_) (fun h22 => absurd h22 (by omega))
          refine lv_aload_n hx hb dDA_makePair_295 rfl (lv_at hl 2 rfl) ?_
          refine lv_aload_n hx hb dDA_makePair_296 rfl (lv_at hl 4 rfl) ?_
          refine mp_v (cx := []) (wr := []) hP hD hS hA [] [] rfl rfl rfl (by decide) (va_runV (As := [.ref pk]) (rest := []) F (t_DA_digestOf l g _ T xs pl hO hU hc0 hc3 h0 pk 1312 k_h0 k_pk (by omega)) (cwV 1 hts (wg_app (wg_c kw_736 (wg_c kw_738 (wg_c ks_18 (wg_c kw_5 wg_n)))) kw_739) rfl rfl rfl (by decide +kernel) ⟨by decide, by decide⟩) (pp_VT (en_ok g) (ci := 6) (kd := (15, 0)) hK hO k_h0 (nxg hc0 k_h0 rfl) (fun _ h9 => ko1 h9) hP hD hS hA hE [] rfl rfl rfl) rfl rfl hl.1 rfl (lv_room (Nat.le_of_ble_eq_true rfl)) dDA_makePair_297 ⟨by omega, by omega⟩) (fun  pl H locs hu29 hP hD hS => ?_)
          obtain ⟨hq29, hO⟩ := hu29
          have hP : va_P g.1 vcl ([] ++ pl) _ := hP
          have hD : va_D _ ([] ++ pl) := hD
          refine W.widen (k := 0) (n := 0) (by omega) (by omega) ?_
          refine lv_aload_n hx hb dDA_makePair_300 rfl (lv_at hl 2 rfl) ?_
          refine ty_get (ci := 6) (C := "LatticeKeys$Dsa") (TT := T_DA) (N := 17) (kd := (15, 0)) hx hb hts (wg_ft i_DA) hown hK hO k_h0 (nxg hc0 k_h0 rfl) hP (fun _ h9 => h9) rfl 12 (by decide) (hts _ (wg_t kw_177)) (fun _ h9 => h9) (cd := (3, 1, 64)) rfl dDA_makePair_301 (fun v40 hv40 => ?_)
          obtain ⟨r33, rfl, kr33⟩ := (show ∃ r : Nat, v40 = .ref r ∧ T r = some (1, 64) from hv40)
          refine lv_iconst (v := nI 0) hx hb dDA_makePair_304 (by decide) ?_
          refine lv_aload hx hb dDA_makePair_305 (lv_at hl 5 rfl) ?_
          refine lv_bipush (v := nI 64) hx hb dDA_makePair_307 (by decide) ?_
          refine lv_bipush (v := nI 64) hx hb dDA_makePair_309 (by decide) ?_
          refine ty_copyb11 hx hb (hml.trans hl.1.symm) hown (hts _ (wg_t kw_674)) (hts _ (wg_t kw_526)) (hts _ (wg_t kw_525)) (hts _ (wg_t kw_19)) hK hO kr33 (nxg hc0 kr33 rfl) k_sk (nxg hc0 k_sk rfl) hP hD hS (sp := 0) (dp := 64) (n := 64) (by omega) (by omega) (by omega) (by decide) (Nat.le_of_ble_eq_true rfl) dDA_makePair_311 (fun pl H locs hO hP hD hS => ?_)
          exact mp_vret hx hb hr hlk hP hD hS pl ⟨trivial, hO⟩ [] rfl rfl rfl (by omega) (by omega) dDA_makePair_314
        | succ n22 ih22 =>
          intro i22 pl ls H locs hm22  hl hO hP hD hS
          refine lv_iload hx hb dDA_makePair_181 (lv_at hl 0 rfl) ?_
          refine lv_aload_n hx hb dDA_makePair_183 rfl (lv_at hl 3 rfl) ?_
          refine ty_get (ci := 2) (C := "LatticeKeys$DsaSet") (TT := T_DS) (N := 17) (kd := (43, 0)) hx hb hts (wg_ft i_DS) hown hK hO k_st (nxg hc0 k_st rfl) hP (fun _ h9 => h9) rfl 0 (by decide) (hts _ (wg_t kw_302)) (fun _ h9 => h9) (cd := (1, 0, 4)) rfl dDA_makePair_184 (fun v41 hv41 => ?_)
          obtain rfl := (show v41 = .int (nI 4) from hv41)
          refine mi_ge (tgt := 295) hx hb dDA_makePair_187 (by decide) (by omega) (by omega) (fun h23 => absurd h23 (by omega)) (fun h23 => ?_)
          refine lv_aload_n hx hb dDA_makePair_190 rfl (lv_at hl 2 rfl) ?_
          refine lv_aload_n hx hb dDA_makePair_191 rfl (lv_at hl 3 rfl) ?_
          refine lv_iload hx hb dDA_makePair_192 (lv_at hl 0 rfl) ?_
          refine lv_aload_n hx hb dDA_makePair_194 rfl (lv_at hl 2 rfl) ?_
          refine ty_get (ci := 6) (C := "LatticeKeys$Dsa") (TT := T_DA) (N := 17) (kd := (15, 0)) hx hb hts (wg_ft i_DA) hown hK hO k_h0 (nxg hc0 k_h0 rfl) hP (fun _ h9 => h9) rfl 4 (by decide) (hts _ (wg_t kw_169)) (fun _ h9 => h9) (cd := (3, 3, 7)) rfl dDA_makePair_195 (fun v42 hv42 => ?_)
          obtain ⟨r34, rfl, kr34⟩ := (show ∃ r : Nat, v42 = .ref r ∧ T r = some (3, 7) from hv42)
          refine mp_v (cx := []) (wr := []) hP hD hS hA [] [] rfl rfl rfl (by decide) (va_runV (As := [.ref st, .int (nI i22), .ref r34]) (rest := []) F (t_DA_multiplyRow_0 l g _ T xs pl hO hU hc0 h0 st r34 i22 k_h0 k_st kr34 (by omega)) (cwV 3 hts (wg_app (wg_c kw_712 (wg_c kw_714 (wg_c ks_15 (wg_c kw_5 wg_n)))) kw_715) rfl rfl rfl (by decide +kernel) ⟨by decide, by decide⟩) (pp_VT (en_ok g) (ci := 6) (kd := (15, 0)) hK hO k_h0 (nxg hc0 k_h0 rfl) (fun _ h9 => ko1 h9) hP hD hS hA hE [] rfl rfl rfl) rfl rfl hl.1 rfl (lv_room (Nat.le_of_ble_eq_true rfl)) dDA_makePair_198 ⟨by omega, by omega⟩) (fun  pl H locs hu30 hP hD hS => ?_)
          obtain ⟨hq30, hO⟩ := hu30
          have hP : va_P g.1 vcl ([] ++ pl) _ := hP
          have hD : va_D _ ([] ++ pl) := hD
          refine W.widen (k := 0) (n := 0) (by omega) (by omega) ?_
          refine lv_aload_n hx hb dDA_makePair_201 rfl (lv_at hl 2 rfl) ?_
          refine ty_get (ci := 6) (C := "LatticeKeys$Dsa") (TT := T_DA) (N := 17) (kd := (15, 0)) hx hb hts (wg_ft i_DA) hown hK hO k_h0 (nxg hc0 k_h0 rfl) hP (fun _ h9 => h9) rfl 1 (by decide) (hts _ (wg_t kw_166)) (fun _ h9 => h9) (cd := (3, 12, 0)) rfl dDA_makePair_202 (fun v43 hv43 => ?_)
          obtain ⟨r35, rfl, kr35⟩ := (show ∃ r : Nat, v43 = .ref r ∧ T r = some (12, 0) from hv43)
          refine lv_aload_n hx hb dDA_makePair_205 rfl (lv_at hl 2 rfl) ?_
          refine ty_get (ci := 6) (C := "LatticeKeys$Dsa") (TT := T_DA) (N := 17) (kd := (15, 0)) hx hb hts (wg_ft i_DA) hown hK hO k_h0 (nxg hc0 k_h0 rfl) hP (fun _ h9 => h9) rfl 8 (by decide) (hts _ (wg_t kw_173)) (fun _ h9 => h9) (cd := (3, 3, 8)) rfl dDA_makePair_206 (fun v44 hv44 => ?_)
          obtain ⟨r36, rfl, kr36⟩ := (show ∃ r : Nat, v44 = .ref r ∧ T r = some (3, 8) from hv44)
          refine lv_iload hx hb dDA_makePair_209 (lv_at hl 0 rfl) ?_
          refine ty_aald3 hx hb hK hO kr36 (nxg hc0 kr36 rfl) hP (by omega) (by decide) dDA_makePair_211 (fun r37 kr37 => ?_)
          refine mp_v (cx := []) (wr := []) hP hD hS hA [] [] rfl rfl rfl (by decide) (va_runV (As := [.ref r37]) (rest := []) F (t_RG_restore_12 l g _ T xs pl hO hU hc0 r35 r37 kr35 kr37) (cwV 1 hts (wg_app (wg_c kw_720 (wg_c kw_721 (wg_c kw_722 (wg_c kw_4 wg_n)))) kw_723) rfl rfl rfl (by decide +kernel) ⟨by decide, by decide⟩) (pp_VT (en_ok g) (ci := 4) (kd := (12, 0)) hK hO kr35 (nxg hc0 kr35 rfl) (fun _ h9 => ko1 h9) hP hD hS hA hE [] rfl rfl rfl) rfl rfl hl.1 rfl (lv_room (Nat.le_of_ble_eq_true rfl)) dDA_makePair_212 ⟨by omega, by omega⟩) (fun  pl H locs hu31 hP hD hS => ?_)
          obtain ⟨hq31, hO⟩ := hu31
          have hP : va_P g.1 vcl ([] ++ pl) _ := hP
          have hD : va_D _ ([] ++ pl) := hD
          refine W.widen (k := 0) (n := 0) (by omega) (by omega) ?_
          refine lv_aload_n hx hb dDA_makePair_215 rfl (lv_at hl 2 rfl) ?_
          refine ty_get (ci := 6) (C := "LatticeKeys$Dsa") (TT := T_DA) (N := 17) (kd := (15, 0)) hx hb hts (wg_ft i_DA) hown hK hO k_h0 (nxg hc0 k_h0 rfl) hP (fun _ h9 => h9) rfl 1 (by decide) (hts _ (wg_t kw_166)) (fun _ h9 => h9) (cd := (3, 12, 0)) rfl dDA_makePair_216 (fun v45 hv45 => ?_)
          obtain ⟨r38, rfl, kr38⟩ := (show ∃ r : Nat, v45 = .ref r ∧ T r = some (12, 0) from hv45)
          refine lv_aload_n hx hb dDA_makePair_219 rfl (lv_at hl 2 rfl) ?_
          refine ty_get (ci := 6) (C := "LatticeKeys$Dsa") (TT := T_DA) (N := 17) (kd := (15, 0)) hx hb hts (wg_ft i_DA) hown hK hO k_h0 (nxg hc0 k_h0 rfl) hP (fun _ h9 => h9) rfl 8 (by decide) (hts _ (wg_t kw_173)) (fun _ h9 => h9) (cd := (3, 3, 8)) rfl dDA_makePair_220 (fun v46 hv46 => ?_)
          obtain ⟨r39, rfl, kr39⟩ := (show ∃ r : Nat, v46 = .ref r ∧ T r = some (3, 8) from hv46)
          refine lv_iload hx hb dDA_makePair_223 (lv_at hl 0 rfl) ?_
          refine ty_aald3 hx hb hK hO kr39 (nxg hc0 kr39 rfl) hP (by omega) (by decide) dDA_makePair_225 (fun r40 kr40 => ?_)
          refine lv_aload_n hx hb dDA_makePair_226 rfl (lv_at hl 2 rfl) ?_
          refine ty_get (ci := 6) (C := "LatticeKeys$Dsa") (TT := T_DA) (N := 17) (kd := (15, 0)) hx hb hts (wg_ft i_DA) hown hK hO k_h0 (nxg hc0 k_h0 rfl) hP (fun _ h9 => h9) rfl 5 (by decide) (hts _ (wg_t kw_170)) (fun _ h9 => h9) (cd := (3, 3, 8)) rfl dDA_makePair_227 (fun v47 hv47 => ?_)
          obtain ⟨r41, rfl, kr41⟩ := (show ∃ r : Nat, v47 = .ref r ∧ T r = some (3, 8) from hv47)
          refine lv_iload hx hb dDA_makePair_230 (lv_at hl 0 rfl) ?_
          refine ty_aald3 hx hb hK hO kr41 (nxg hc0 kr41 rfl) hP (by omega) (by decide) dDA_makePair_232 (fun r42 kr42 => ?_)
          refine mp_v (cx := []) (wr := []) hP hD hS hA [] [] rfl rfl rfl (by decide) (va_runV (As := [.ref r40, .ref r42]) (rest := []) F (t_RG_add_12 l g _ T xs pl hO hU hc0 r38 r40 r42 kr38 kr40 kr42) (cwV 2 hts (wg_app (wg_c kw_728 (wg_c kw_729 (wg_c kw_730 (wg_c kw_4 wg_n)))) kw_731) rfl rfl rfl (by decide +kernel) ⟨by decide, by decide⟩) (pp_VT (en_ok g) (ci := 4) (kd := (12, 0)) hK hO kr38 (nxg hc0 kr38 rfl) (fun _ h9 => ko1 h9) hP hD hS hA hE [] rfl rfl rfl) rfl rfl hl.1 rfl (lv_room (Nat.le_of_ble_eq_true rfl)) dDA_makePair_233 ⟨by omega, by omega⟩) (fun  pl H locs hu32 hP hD hS => ?_)
          obtain ⟨hq32, hO⟩ := hu32
          have hP : va_P g.1 vcl ([] ++ pl) _ := hP
          have hD : va_D _ ([] ++ pl) := hD
          refine W.widen (k := 0) (n := 0) (by omega) (by omega) ?_
          refine lv_aload_n hx hb dDA_makePair_236 rfl (lv_at hl 2 rfl) ?_
          refine lv_aload_n hx hb dDA_makePair_237 rfl (lv_at hl 2 rfl) ?_
          refine ty_get (ci := 6) (C := "LatticeKeys$Dsa") (TT := T_DA) (N := 17) (kd := (15, 0)) hx hb hts (wg_ft i_DA) hown hK hO k_h0 (nxg hc0 k_h0 rfl) hP (fun _ h9 => h9) rfl 8 (by decide) (hts _ (wg_t kw_173)) (fun _ h9 => h9) (cd := (3, 3, 8)) rfl dDA_makePair_238 (fun v48 hv48 => ?_)
          obtain ⟨r43, rfl, kr43⟩ := (show ∃ r : Nat, v48 = .ref r ∧ T r = some (3, 8) from hv48)
          refine lv_iload hx hb dDA_makePair_241 (lv_at hl 0 rfl) ?_
          refine ty_aald3 hx hb hK hO kr43 (nxg hc0 kr43 rfl) hP (by omega) (by decide) dDA_makePair_243 (fun r44 kr44 => ?_)
          refine mp_v (cx := []) (wr := []) hP hD hS hA [] [] rfl rfl rfl (by decide) (va_runV (As := [.ref r44]) (rest := []) F (t_DA_splitRow l g _ T xs pl hO hU hc0 h0 r44 k_h0 kr44) (cwV 1 hts (wg_app (wg_c kw_732 (wg_c kw_734 (wg_c ks_17 (wg_c kw_5 wg_n)))) kw_735) rfl rfl rfl (by decide +kernel) ⟨by decide, by decide⟩) (pp_VT (en_ok g) (ci := 6) (kd := (15, 0)) hK hO k_h0 (nxg hc0 k_h0 rfl) (fun _ h9 => ko1 h9) hP hD hS hA hE [] rfl rfl rfl) rfl rfl hl.1 rfl (lv_room (Nat.le_of_ble_eq_true rfl)) dDA_makePair_244 ⟨by omega, by omega⟩) (fun  pl H locs hu33 hP hD hS => ?_)
          obtain ⟨hq33, hO⟩ := hu33
          have hP : va_P g.1 vcl ([] ++ pl) _ := hP
          have hD : va_D _ ([] ++ pl) := hD
          refine W.widen (k := 0) (n := 0) (by omega) (by omega) ?_
          refine lv_aload_n hx hb dDA_makePair_247 rfl (lv_at hl 2 rfl) ?_
          refine ty_get (ci := 6) (C := "LatticeKeys$Dsa") (TT := T_DA) (N := 17) (kd := (15, 0)) hx hb hts (wg_ft i_DA) hown hK hO k_h0 (nxg hc0 k_h0 rfl) hP (fun _ h9 => h9) rfl 8 (by decide) (hts _ (wg_t kw_173)) (fun _ h9 => h9) (cd := (3, 3, 8)) rfl dDA_makePair_248 (fun v49 hv49 => ?_)
          obtain ⟨r45, rfl, kr45⟩ := (show ∃ r : Nat, v49 = .ref r ∧ T r = some (3, 8) from hv49)
          refine lv_iload hx hb dDA_makePair_251 (lv_at hl 0 rfl) ?_
          refine ty_aald3 hx hb hK hO kr45 (nxg hc0 kr45 rfl) hP (by omega) (by decide) dDA_makePair_253 (fun r46 kr46 => ?_)
          refine lv_bipush (v := nI 10) hx hb dDA_makePair_254 (by decide) ?_
          refine lv_aload_n hx hb dDA_makePair_256 rfl (lv_at hl 4 rfl) ?_
          refine lv_bipush (v := nI 32) hx hb dDA_makePair_257 (by decide) ?_
          refine lv_sipush (v := nI 320) hx hb dDA_makePair_259 (by decide) ?_
          refine lv_iload hx hb dDA_makePair_262 (lv_at hl 0 rfl) ?_
          refine mi_imul hx hb dDA_makePair_264 ?_
          refine mi_iadd hx hb dDA_makePair_265 ?_
          refine mp_v (cx := []) (wr := []) hP hD hS hA [] [] rfl rfl rfl (by decide) (va_runS (As := [.ref r46, .int (nI 10), .ref pk, .int (nI (32 + (320 * i22)))]) (rest := []) F (t_BT_pack l g _ T xs pl hO hU hc0 r46 pk 1312 10 (32 + (320 * i22)) kr46 k_pk (by omega) (by omega) (by omega)) (va_cwS 4 hts (wg_app (wg_c kw_702 (wg_c kw_645 (wg_c kw_22 wg_n))) kw_646) rfl rfl rfl (by decide +kernel) ⟨by decide, by decide⟩) (pp_S (en_ok g) hP hD hS hA hE [] rfl rfl) rfl rfl hl.1 rfl (lv_room (Nat.le_of_ble_eq_true rfl)) dDA_makePair_266 ⟨by omega, by omega⟩) (fun  pl H locs hu34 hP hD hS => ?_)
          obtain ⟨hq34, hO⟩ := hu34
          have hP : va_P g.1 vcl ([] ++ pl) _ := hP
          have hD : va_D _ ([] ++ pl) := hD
          refine W.widen (k := 0) (n := 0) (by omega) (by omega) ?_
          refine lv_aload_n hx hb dDA_makePair_269 rfl (lv_at hl 2 rfl) ?_
          refine ty_get (ci := 6) (C := "LatticeKeys$Dsa") (TT := T_DA) (N := 17) (kd := (15, 0)) hx hb hts (wg_ft i_DA) hown hK hO k_h0 (nxg hc0 k_h0 rfl) hP (fun _ h9 => h9) rfl 10 (by decide) (hts _ (wg_t kw_175)) (fun _ h9 => h9) (cd := (3, 0, 256)) rfl dDA_makePair_270 (fun v50 hv50 => ?_)
          obtain ⟨r47, rfl, kr47⟩ := (show ∃ r : Nat, v50 = .ref r ∧ T r = some (0, 256) from hv50)
          refine lv_bipush (v := nI 13) hx hb dDA_makePair_273 (by decide) ?_
          refine lv_aload hx hb dDA_makePair_275 (lv_at hl 5 rfl) ?_
          refine lv_iload hx hb dDA_makePair_277 (lv_at hl 1 rfl) ?_
          refine lv_sipush (v := nI 416) hx hb dDA_makePair_279 (by decide) ?_
          refine lv_iload hx hb dDA_makePair_282 (lv_at hl 0 rfl) ?_
          refine mi_imul hx hb dDA_makePair_284 ?_
          refine mi_iadd hx hb dDA_makePair_285 ?_
          refine mp_v (cx := []) (wr := []) hP hD hS hA [] [] rfl rfl rfl (by decide) (va_runS (As := [.ref r47, .int (nI 13), .ref sk, .int (nI (896 + (416 * i22)))]) (rest := []) F (t_BT_pack l g _ T xs pl hO hU hc0 r47 sk 2560 13 (896 + (416 * i22)) kr47 k_sk (by omega) (by omega) (by omega)) (va_cwS 4 hts (wg_app (wg_c kw_702 (wg_c kw_645 (wg_c kw_22 wg_n))) kw_646) rfl rfl rfl (by decide +kernel) ⟨by decide, by decide⟩) (pp_S (en_ok g) hP hD hS hA hE [] rfl rfl) rfl rfl hl.1 rfl (lv_room (Nat.le_of_ble_eq_true rfl)) dDA_makePair_286 ⟨by omega, by omega⟩) (fun  pl H locs hu35 hP hD hS => ?_)
          obtain ⟨hq35, hO⟩ := hu35
          have hP : va_P g.1 vcl ([] ++ pl) _ := hP
          have hD : va_D _ ([] ++ pl) := hD
          refine W.widen (k := 0) (n := 0) (by omega) (by omega) ?_
          refine mi_iinc (k := 0) (x := i22) (d := 1) (y := i22 + 1) (lv' := [(6, .int (nI (i22 + 1))), (5, .int (nI 896)), (0, .ref h0), (1, .ref st), (3, .ref pk), (4, .ref sk)]) hx hb dDA_makePair_289 hl rfl (by decide) rfl (by decide) rfl (fun ls hl => ?_)
          refine lv_goto (tgt := 181) hx hb dDA_makePair_292 (by decide) ?_
          exact ih22 (i22 + 1) pl ls H locs (by omega) (lv_sub hl [0, 1, 2, 3, 4, 5] rfl) hO hP hD hS
      exact lp22 4 0 pl ls _ _ (by omega) (lv_sub hl [0, 1, 2, 3, 4, 5] rfl) hO hP hD hS
    | succ n21 ih21 =>
      intro i21 pl ls H locs hm21  hl hO hP hD hS
      refine lv_iload hx hb dDA_makePair_126 (lv_at hl 0 rfl) ?_
      refine lv_aload_n hx hb dDA_makePair_128 rfl (lv_at hl 2 rfl) ?_
      refine ty_get (ci := 2) (C := "LatticeKeys$DsaSet") (TT := T_DS) (N := 17) (kd := (43, 0)) hx hb hts (wg_ft i_DS) hown hK hO k_st (nxg hc0 k_st rfl) hP (fun _ h9 => h9) rfl 1 (by decide) (hts _ (wg_t kw_305)) (fun _ h9 => h9) (cd := (1, 0, 4)) rfl dDA_makePair_129 (fun v51 hv51 => ?_)
      obtain rfl := (show v51 = .int (nI 4) from hv51)
      refine mi_ge (tgt := 155) hx hb dDA_makePair_132 (by decide) (by omega) (by omega) (fun h24 => absurd h24 (by omega)) (fun h24 => ?_)
      refine lv_aload_n hx hb dDA_makePair_135 rfl (lv_at hl 1 rfl) ?_
      refine ty_get (ci := 6) (C := "LatticeKeys$Dsa") (TT := T_DA) (N := 17) (kd := (15, 0)) hx hb hts (wg_ft i_DA) hown hK hO k_h0 (nxg hc0 k_h0 rfl) hP (fun _ h9 => h9) rfl 1 (by decide) (hts _ (wg_t kw_166)) (fun _ h9 => h9) (cd := (3, 12, 0)) rfl dDA_makePair_136 (fun v52 hv52 => ?_)
      obtain ⟨r48, rfl, kr48⟩ := (show ∃ r : Nat, v52 = .ref r ∧ T r = some (12, 0) from hv52)
      refine lv_aload_n hx hb dDA_makePair_139 rfl (lv_at hl 1 rfl) ?_
      refine ty_get (ci := 6) (C := "LatticeKeys$Dsa") (TT := T_DA) (N := 17) (kd := (15, 0)) hx hb hts (wg_ft i_DA) hown hK hO k_h0 (nxg hc0 k_h0 rfl) hP (fun _ h9 => h9) rfl 4 (by decide) (hts _ (wg_t kw_169)) (fun _ h9 => h9) (cd := (3, 3, 7)) rfl dDA_makePair_140 (fun v53 hv53 => ?_)
      obtain ⟨r49, rfl, kr49⟩ := (show ∃ r : Nat, v53 = .ref r ∧ T r = some (3, 7) from hv53)
      refine lv_iload hx hb dDA_makePair_143 (lv_at hl 0 rfl) ?_
      refine ty_aald3 hx hb hK hO kr49 (nxg hc0 kr49 rfl) hP (by omega) (by decide) dDA_makePair_145 (fun r50 kr50 => ?_)
      refine mp_v (cx := []) (wr := []) hP hD hS hA [] [] rfl rfl rfl (by decide) (va_runV (As := [.ref r50]) (rest := []) F (t_RG_transform_12 l g _ T xs pl hO hU hc0 r48 r50 kr48 kr50) (cwV 1 hts (wg_app (wg_c kw_711 (wg_c kw_637 (wg_c kw_638 (wg_c kw_4 wg_n)))) kw_639) rfl rfl rfl (by decide +kernel) ⟨by decide, by decide⟩) (pp_VT (en_ok g) (ci := 4) (kd := (12, 0)) hK hO kr48 (nxg hc0 kr48 rfl) (fun _ h9 => ko1 h9) hP hD hS hA hE [] rfl rfl rfl) rfl rfl hl.1 rfl (lv_room (Nat.le_of_ble_eq_true rfl)) dDA_makePair_146 ⟨by omega, by omega⟩) (fun  pl H locs hu36 hP hD hS => ?_)
      obtain ⟨hq36, hO⟩ := hu36
      have hP : va_P g.1 vcl ([] ++ pl) _ := hP
      have hD : va_D _ ([] ++ pl) := hD
      refine W.widen (k := 0) (n := 0) (by omega) (by omega) ?_
      refine mi_iinc (k := 0) (x := i21) (d := 1) (y := i21 + 1) (lv' := [(5, .int (nI (i21 + 1))), (0, .ref h0), (1, .ref st), (3, .ref pk), (4, .ref sk)]) hx hb dDA_makePair_149 hl rfl (by decide) rfl (by decide) rfl (fun ls hl => ?_)
      refine lv_goto (tgt := 126) hx hb dDA_makePair_152 (by decide) ?_
      exact ih21 (i21 + 1) pl ls H locs (by omega) (lv_sub hl [0, 1, 2, 3, 4] rfl) hO hP hD hS
  exact lp21 4 0 pl ls _ _ (by omega) (lv_sub hl [0, 1, 2, 4, 5] rfl) hO hP hD hS
set_option maxHeartbeats 400000 in
set_option maxRecDepth 100000 in
theorem t_DA_makePair_1 (l : Launch) (g : Gd) (sz : Nat) (T : Ty) (xs : List Nat) (pl : va_W) (hO : okx g T xs pl) (hU : uni T) (hc0 : clo T xs 0) (hc3 : clo T xs 3) (hc4 : clo T xs 4) (h0 st ch pk sk n : Nat) (k_h0 : T h0 = some (15, 0)) (k_st : T st = some (44, 0)) (k_ch : T ch = some (1, n)) (k_pk : T pk = some (1, 1952)) (k_sk : T sk = some (1, 4032)) (h1 : 32 ≤ n) (h2 : n < 65536)  : Met l y_DA_makePair w_DA_makePair ({ frames := 6, cells := 0, slots := 0, locals := 176 } : Room) (va_Pc [.ref h0, .ref st, .ref ch, .ref pk, .ref sk] (pr (en g) g.1 vcl sz ([] ++ pl))) (va_Qv (fun (u : va_W) => (True) ∧ okx g T xs u) (po g.1 vcl (va_A ([] ++ pl) sz) (fun (u : va_W) => [] ++ u)) (va_A ([] ++ pl) sz)) 0 0 (va_A ([] ++ pl) sz) := by
  refine mc_entry (cc := c_DA_makePair) (maxL := 7) (ret := none) (by decide) rfl (Nat.le_of_ble_eq_true rfl) ?_
  intro p e s m args below meth c ls F hr hlk hnm hsz hP hD hE hA hl
  obtain ⟨hx, hb, hml, hown, hts⟩ := id F
  have hK := hE.1
  generalize va_A ([] ++ pl) sz = A at hD hE hA ⊢
  have hS : va_S A s.heap s.heap [] := va_S.rf
  have hl : lv_has ls 7 [(0, .ref h0), (1, .ref st), (2, .ref ch), (3, .ref pk), (4, .ref sk)] := hl
  refine lv_aload_n hx hb dDA_makePair_0 rfl (lv_at hl 0 rfl) ?_
  refine ty_get (ci := 6) (C := "LatticeKeys$Dsa") (TT := T_DA) (N := 17) (kd := (15, 0)) hx hb hts (wg_ft i_DA) hown hK hO k_h0 (nxg hc0 k_h0 rfl) hP (fun _ h9 => h9) rfl 0 (by decide) (hts _ (wg_t kw_165)) (fun _ h9 => h9) (cd := (3, 10, 2)) rfl dDA_makePair_1 (fun v21 hv21 => ?_)
  obtain ⟨r21, rfl, kr21⟩ := (show ∃ r : Nat, v21 = .ref r ∧ T r = some (10, 2) from hv21)
  refine lv_iconst (v := nI 3) hx hb dDA_makePair_4 (by decide) ?_
  obtain ⟨e21, pl, hP, hD, hk21, hO⟩ := open1 hP hD hO kr21 (nxg hc3 kr21 rfl)
  obtain ⟨ln21, rt21, ps21, x21, rfl, kl21, hr21, hr22, hr23⟩ := hk21
  have kl21 : T ln21 = some (19, 2) := kl21
  obtain ⟨e22, pl, hP, hD, hk22, hO⟩ := open1 hP hD hO kl21 (nmc (knd_ne kl21 kr21 (by decide)) (nxg hc3 kl21 rfl))
  obtain ⟨f21, rfl⟩ := hk22
  have hP : va_P g.1 vcl ([(r21, .inr (3, [.ref ln21, .int (nI rt21), .int x21, .int (nI ps21)])), (ln21, .inl (g.2.1 2, 25, .inr (.inl f21)))] ++ pl) _ := hP
  have hD : va_D _ ([(r21, .inr (3, [.ref ln21, .int (nI rt21), .int x21, .int (nI ps21)])), (ln21, .inl (g.2.1 2, 25, .inr (.inl f21)))] ++ pl) := hD
  refine mp_v (cx := [(r21, .inr (3, [.ref ln21, .int (nI rt21), .int x21, .int (nI ps21)])), (ln21, .inl (g.2.1 2, 25, .inr (.inl f21)))]) (wr := []) hP hD hS hA [0, 1] [] rfl rfl rfl (by decide) (va_runV (As := [.int (nI 3)]) (rest := []) F (t_SP_start_3 l g _ T (ln21 :: (r21 :: xs)) pl hO hU  r21 ln21 rt21 ps21 x21 f21) (cwV 1 hts (wg_app (wg_c kw_669 (wg_c kw_579 (wg_c kw_580 (wg_c kw_2 wg_n)))) kw_581) rfl rfl rfl (by decide +kernel) ⟨by decide, by decide⟩) (pp_V (en_ok g) (q0 := 0) hK hP hD hS hA hE [0, 1] rfl rfl rfl rfl) rfl rfl hl.1 rfl (lv_room (Nat.le_of_ble_eq_true rfl)) dDA_makePair_5 ⟨by omega, by omega⟩) (fun  u21 H locs hu21 hP hD hS => ?_)
  obtain ⟨u22, pl⟩ := u21
  obtain ⟨hq21, hO⟩ := hu21
  have hP : va_P g.1 vcl ([(r21, .inr (3, [.ref ln21, .int (nI 136), .int (nI 31), .int (nI 0)])), (ln21, .inl (g.2.1 2, 25, .inr (.inl u22)))] ++ pl) _ := hP
  have hD : va_D _ ([(r21, .inr (3, [.ref ln21, .int (nI 136), .int (nI 31), .int (nI 0)])), (ln21, .inl (g.2.1 2, 25, .inr (.inl u22)))] ++ pl) := hD
  refine W.widen (k := 0) (n := 0) (by omega) (by omega) ?_
  refine lv_aload_n hx hb dDA_makePair_8 rfl (lv_at hl 0 rfl) ?_
  refine ty_get (ci := 6) (C := "LatticeKeys$Dsa") (TT := T_DA) (N := 17) (kd := (15, 0)) hx hb hts (wg_ft i_DA) hown hK hO k_h0 (nxg (clo_cons (clo_cons hc0 kr21 (by decide)) kl21 (by decide)) k_h0 rfl) hP (fun _ h9 => h9) rfl 0 (by decide) (hts _ (wg_t kw_165)) (fun _ h9 => h9) (cd := (3, 10, 2)) rfl dDA_makePair_9 (fun v22 hv22 => ?_)
  obtain ⟨r22, rfl, kr22⟩ := (show ∃ r : Nat, v22 = .ref r ∧ T r = some (10, 2) from hv22)
  obtain rfl : r21 = r22 := hU _ _ _ (by decide) kr21 kr22
  refine lv_aload_n hx hb dDA_makePair_12 rfl (lv_at hl 2 rfl) ?_
  refine lv_iconst (v := nI 0) hx hb dDA_makePair_13 (by decide) ?_
  refine lv_bipush (v := nI 32) hx hb dDA_makePair_14 (by decide) ?_
  refine mp_v (cx := [(r21, .inr (3, [.ref ln21, .int (nI 136), .int (nI 31), .int (nI 0)])), (ln21, .inl (g.2.1 2, 25, .inr (.inl u22)))]) (wr := []) hP hD hS hA [0, 1] [] rfl rfl rfl (by decide) (va_runV (As := [.ref ch, .int (nI 0), .int (nI 32)]) (rest := []) F (t_SP_absorb l g _ T (ln21 :: (r21 :: xs)) pl hO hU (clo_cons (clo_cons hc0 kr21 (by decide)) kl21 (by decide)) ch n 0 32 r21 ln21 136 0 (nI 31) u22 k_ch (by omega) (by omega) (by omega) (by omega)) (cwV 3 hts (wg_app (wg_c kw_670 (wg_c kw_586 (wg_c kw_587 (wg_c kw_2 wg_n)))) kw_588) rfl rfl rfl (by decide +kernel) ⟨by decide, by decide⟩) (pp_V (en_ok g) (q0 := 0) hK hP hD hS hA hE [0, 1] rfl rfl rfl rfl) rfl rfl hl.1 rfl (lv_room (Nat.le_of_ble_eq_true rfl)) dDA_makePair_16 ⟨by omega, by omega⟩) (fun  u23 H locs hu22 hP hD hS => ?_)
  obtain ⟨u24, pl⟩ := u23
  obtain ⟨hq22, hO⟩ := hu22
  obtain ⟨k21, f22⟩ := u24
  have hP : va_P g.1 vcl ([(r21, .inr (3, [.ref ln21, .int (nI 136), .int (nI 31), .int (nI k21)])), (ln21, .inl (g.2.1 2, 25, .inr (.inl f22)))] ++ pl) _ := hP
  have hD : va_D _ ([(r21, .inr (3, [.ref ln21, .int (nI 136), .int (nI 31), .int (nI k21)])), (ln21, .inl (g.2.1 2, 25, .inr (.inl f22)))] ++ pl) := hD
  have hq22 : k21 < 136 := hq22
  refine W.widen (k := 0) (n := 0) (by omega) (by omega) ?_
  refine lv_aload_n hx hb dDA_makePair_19 rfl (lv_at hl 0 rfl) ?_
  refine ty_get (ci := 6) (C := "LatticeKeys$Dsa") (TT := T_DA) (N := 17) (kd := (15, 0)) hx hb hts (wg_ft i_DA) hown hK hO k_h0 (nxg (clo_cons (clo_cons hc0 kr21 (by decide)) kl21 (by decide)) k_h0 rfl) hP (fun _ h9 => h9) rfl 0 (by decide) (hts _ (wg_t kw_165)) (fun _ h9 => h9) (cd := (3, 10, 2)) rfl dDA_makePair_20 (fun v23 hv23 => ?_)
  obtain ⟨r23, rfl, kr23⟩ := (show ∃ r : Nat, v23 = .ref r ∧ T r = some (10, 2) from hv23)
  obtain rfl : r21 = r23 := hU _ _ _ (by decide) kr21 kr23
  refine lv_aload_n hx hb dDA_makePair_23 rfl (lv_at hl 1 rfl) ?_
  refine ty_get (ci := 2) (C := "LatticeKeys$DsaSet") (TT := T_DS) (N := 17) (kd := (44, 0)) hx hb hts (wg_ft i_DS) hown hK hO k_st (nxg (clo_cons (clo_cons hc0 kr21 (by decide)) kl21 (by decide)) k_st rfl) hP (fun _ h9 => h9) rfl 0 (by decide) (hts _ (wg_t kw_302)) (fun _ h9 => h9) (cd := (1, 0, 6)) rfl dDA_makePair_24 (fun v24 hv24 => ?_)
  obtain rfl := (show v24 = .int (nI 6) from hv24)
  refine mp_v (cx := [(r21, .inr (3, [.ref ln21, .int (nI 136), .int (nI 31), .int (nI k21)])), (ln21, .inl (g.2.1 2, 25, .inr (.inl f22)))]) (wr := []) hP hD hS hA [0, 1] [] rfl rfl rfl (by decide) (va_runV (As := [.int (nI 6)]) (rest := []) F (t_SP_absorbByte l g _ T (ln21 :: (r21 :: xs)) pl hO hU  (nI 6) r21 ln21 136 k21 (nI 31) f22 (by omega) (by omega)) (cwV 1 hts (wg_app (wg_c kw_671 (wg_c kw_590 (wg_c kw_591 (wg_c kw_2 wg_n)))) kw_592) rfl rfl rfl (by decide +kernel) ⟨by decide, by decide⟩) (pp_V (en_ok g) (q0 := 0) hK hP hD hS hA hE [0, 1] rfl rfl rfl rfl) rfl rfl hl.1 rfl (lv_room (Nat.le_of_ble_eq_true rfl)) dDA_makePair_27 ⟨by omega, by omega⟩) (fun  u25 H locs hu23 hP hD hS => ?_)
  obtain ⟨u26, pl⟩ := u25
  obtain ⟨hq23, hO⟩ := hu23
  obtain ⟨k22, f23⟩ := u26
  have hP : va_P g.1 vcl ([(r21, .inr (3, [.ref ln21, .int (nI 136), .int (nI 31), .int (nI k22)])), (ln21, .inl (g.2.1 2, 25, .inr (.inl f23)))] ++ pl) _ := hP
  have hD : va_D _ ([(r21, .inr (3, [.ref ln21, .int (nI 136), .int (nI 31), .int (nI k22)])), (ln21, .inl (g.2.1 2, 25, .inr (.inl f23)))] ++ pl) := hD
  have hq23 : k22 < 136 := hq23
  refine W.widen (k := 0) (n := 0) (by omega) (by omega) ?_
  refine lv_aload_n hx hb dDA_makePair_30 rfl (lv_at hl 0 rfl) ?_
  refine ty_get (ci := 6) (C := "LatticeKeys$Dsa") (TT := T_DA) (N := 17) (kd := (15, 0)) hx hb hts (wg_ft i_DA) hown hK hO k_h0 (nxg (clo_cons (clo_cons hc0 kr21 (by decide)) kl21 (by decide)) k_h0 rfl) hP (fun _ h9 => h9) rfl 0 (by decide) (hts _ (wg_t kw_165)) (fun _ h9 => h9) (cd := (3, 10, 2)) rfl dDA_makePair_31 (fun v25 hv25 => ?_)
  obtain ⟨r24, rfl, kr24⟩ := (show ∃ r : Nat, v25 = .ref r ∧ T r = some (10, 2) from hv25)
  obtain rfl : r21 = r24 := hU _ _ _ (by decide) kr21 kr24
  refine lv_aload_n hx hb dDA_makePair_34 rfl (lv_at hl 1 rfl) ?_
  refine ty_get (ci := 2) (C := "LatticeKeys$DsaSet") (TT := T_DS) (N := 17) (kd := (44, 0)) hx hb hts (wg_ft i_DS) hown hK hO k_st (nxg (clo_cons (clo_cons hc0 kr21 (by decide)) kl21 (by decide)) k_st rfl) hP (fun _ h9 => h9) rfl 1 (by decide) (hts _ (wg_t kw_305)) (fun _ h9 => h9) (cd := (1, 0, 5)) rfl dDA_makePair_35 (fun v26 hv26 => ?_)
  obtain rfl := (show v26 = .int (nI 5) from hv26)
  refine mp_v (cx := [(r21, .inr (3, [.ref ln21, .int (nI 136), .int (nI 31), .int (nI k22)])), (ln21, .inl (g.2.1 2, 25, .inr (.inl f23)))]) (wr := []) hP hD hS hA [0, 1] [] rfl rfl rfl (by decide) (va_runV (As := [.int (nI 5)]) (rest := []) F (t_SP_absorbByte l g _ T (ln21 :: (r21 :: xs)) pl hO hU  (nI 5) r21 ln21 136 k22 (nI 31) f23 (by omega) (by omega)) (cwV 1 hts (wg_app (wg_c kw_671 (wg_c kw_590 (wg_c kw_591 (wg_c kw_2 wg_n)))) kw_592) rfl rfl rfl (by decide +kernel) ⟨by decide, by decide⟩) (pp_V (en_ok g) (q0 := 0) hK hP hD hS hA hE [0, 1] rfl rfl rfl rfl) rfl rfl hl.1 rfl (lv_room (Nat.le_of_ble_eq_true rfl)) dDA_makePair_38 ⟨by omega, by omega⟩) (fun  u27 H locs hu24 hP hD hS => ?_)
  obtain ⟨u28, pl⟩ := u27
  obtain ⟨hq24, hO⟩ := hu24
  obtain ⟨k23, f24⟩ := u28
  have hP : va_P g.1 vcl ([(r21, .inr (3, [.ref ln21, .int (nI 136), .int (nI 31), .int (nI k23)])), (ln21, .inl (g.2.1 2, 25, .inr (.inl f24)))] ++ pl) _ := hP
  have hD : va_D _ ([(r21, .inr (3, [.ref ln21, .int (nI 136), .int (nI 31), .int (nI k23)])), (ln21, .inl (g.2.1 2, 25, .inr (.inl f24)))] ++ pl) := hD
  have hq24 : k23 < 136 := hq24
  refine W.widen (k := 0) (n := 0) (by omega) (by omega) ?_
  refine lv_aload_n hx hb dDA_makePair_41 rfl (lv_at hl 0 rfl) ?_
  refine ty_get (ci := 6) (C := "LatticeKeys$Dsa") (TT := T_DA) (N := 17) (kd := (15, 0)) hx hb hts (wg_ft i_DA) hown hK hO k_h0 (nxg (clo_cons (clo_cons hc0 kr21 (by decide)) kl21 (by decide)) k_h0 rfl) hP (fun _ h9 => h9) rfl 0 (by decide) (hts _ (wg_t kw_165)) (fun _ h9 => h9) (cd := (3, 10, 2)) rfl dDA_makePair_42 (fun v27 hv27 => ?_)
  obtain ⟨r25, rfl, kr25⟩ := (show ∃ r : Nat, v27 = .ref r ∧ T r = some (10, 2) from hv27)
  obtain rfl : r21 = r25 := hU _ _ _ (by decide) kr21 kr25
  refine mp_v (cx := [(r21, .inr (3, [.ref ln21, .int (nI 136), .int (nI 31), .int (nI k23)])), (ln21, .inl (g.2.1 2, 25, .inr (.inl f24)))]) (wr := []) hP hD hS hA [0, 1] [] rfl rfl rfl (by decide) (va_runV (As := []) (rest := []) F (t_SP_finish l g _ T (ln21 :: (r21 :: xs)) pl hO hU  r21 ln21 136 k23 (nI 31) f24 (by omega) (by omega)) (cwV 0 hts (wg_app (wg_c kw_672 (wg_c kw_611 (wg_c kw_612 (wg_c kw_2 wg_n)))) kw_613) rfl rfl rfl (by decide +kernel) ⟨by decide, by decide⟩) (pp_V (en_ok g) (q0 := 0) hK hP hD hS hA hE [0, 1] rfl rfl rfl rfl) rfl rfl hl.1 rfl (lv_room (Nat.le_of_ble_eq_true rfl)) dDA_makePair_45 ⟨by omega, by omega⟩) (fun  u29 H locs hu25 hP hD hS => ?_)
  obtain ⟨u30, pl⟩ := u29
  obtain ⟨hq25, hO⟩ := hu25
  have hP : va_P g.1 vcl ([(r21, .inr (3, [.ref ln21, .int (nI 136), .int (nI 31), .int (nI 136)])), (ln21, .inl (g.2.1 2, 25, .inr (.inl u30)))] ++ pl) _ := hP
  have hD : va_D _ ([(r21, .inr (3, [.ref ln21, .int (nI 136), .int (nI 31), .int (nI 136)])), (ln21, .inl (g.2.1 2, 25, .inr (.inl u30)))] ++ pl) := hD
  refine W.widen (k := 0) (n := 0) (by omega) (by omega) ?_
  refine lv_aload_n hx hb dDA_makePair_48 rfl (lv_at hl 0 rfl) ?_
  refine ty_get (ci := 6) (C := "LatticeKeys$Dsa") (TT := T_DA) (N := 17) (kd := (15, 0)) hx hb hts (wg_ft i_DA) hown hK hO k_h0 (nxg (clo_cons (clo_cons hc0 kr21 (by decide)) kl21 (by decide)) k_h0 rfl) hP (fun _ h9 => h9) rfl 0 (by decide) (hts _ (wg_t kw_165)) (fun _ h9 => h9) (cd := (3, 10, 2)) rfl dDA_makePair_49 (fun v28 hv28 => ?_)
  obtain ⟨r26, rfl, kr26⟩ := (show ∃ r : Nat, v28 = .ref r ∧ T r = some (10, 2) from hv28)
  obtain rfl : r21 = r26 := hU _ _ _ (by decide) kr21 kr26
  refine lv_aload_n hx hb dDA_makePair_52 rfl (lv_at hl 0 rfl) ?_
  refine ty_get (ci := 6) (C := "LatticeKeys$Dsa") (TT := T_DA) (N := 17) (kd := (15, 0)) hx hb hts (wg_ft i_DA) hown hK hO k_h0 (nxg (clo_cons (clo_cons hc0 kr21 (by decide)) kl21 (by decide)) k_h0 rfl) hP (fun _ h9 => h9) rfl 11 (by decide) (hts _ (wg_t kw_176)) (fun _ h9 => h9) (cd := (3, 1, 128)) rfl dDA_makePair_53 (fun v29 hv29 => ?_)
  obtain ⟨r27, rfl, kr27⟩ := (show ∃ r : Nat, v29 = .ref r ∧ T r = some (1, 128) from hv29)
  refine lv_iconst (v := nI 0) hx hb dDA_makePair_56 (by decide) ?_
  refine lv_sipush (v := nI 128) hx hb dDA_makePair_57 (by decide) ?_
  refine mp_v (cx := [(r21, .inr (3, [.ref ln21, .int (nI 136), .int (nI 31), .int (nI 136)])), (ln21, .inl (g.2.1 2, 25, .inr (.inl u30)))]) (wr := []) hP hD hS hA [0, 1] [] rfl rfl rfl (by decide) (va_runV (As := [.ref r27, .int (nI 0), .int (nI 128)]) (rest := []) F (t_SP_squeeze l g _ T (ln21 :: (r21 :: xs)) pl hO hU (clo_cons (clo_cons hc0 kr21 (by decide)) kl21 (by decide)) r27 128 0 128 r21 ln21 136 136 (nI 31) u30 kr27 (by omega) (by omega) (by omega) (by omega)) (cwV 3 hts (wg_app (wg_c kw_673 (wg_c kw_615 (wg_c kw_616 (wg_c kw_2 wg_n)))) kw_617) rfl rfl rfl (by decide +kernel) ⟨by decide, by decide⟩) (pp_V (en_ok g) (q0 := 0) hK hP hD hS hA hE [0, 1] rfl rfl rfl rfl) rfl rfl hl.1 rfl (lv_room (Nat.le_of_ble_eq_true rfl)) dDA_makePair_60 ⟨by omega, by omega⟩) (fun  u31 H locs hu26 hP hD hS => ?_)
  obtain ⟨u32, pl⟩ := u31
  obtain ⟨hq26, hO⟩ := hu26
  obtain ⟨k24, f25⟩ := u32
  have hP : va_P g.1 vcl ([(r21, .inr (3, [.ref ln21, .int (nI 136), .int (nI 31), .int (nI k24)])), (ln21, .inl (g.2.1 2, 25, .inr (.inl f25)))] ++ pl) _ := hP
  have hD : va_D _ ([(r21, .inr (3, [.ref ln21, .int (nI 136), .int (nI 31), .int (nI k24)])), (ln21, .inl (g.2.1 2, 25, .inr (.inl f25)))] ++ pl) := hD
  have hq26 : k24 ≤ 136 := hq26
  refine W.widen (k := 0) (n := 0) (by omega) (by omega) ?_
  refine lv_aload_n hx hb dDA_makePair_63 rfl (lv_at hl 0 rfl) ?_
  refine ty_get (ci := 6) (C := "LatticeKeys$Dsa") (TT := T_DA) (N := 17) (kd := (15, 0)) hx hb hts (wg_ft i_DA) hown hK hO k_h0 (nxg (clo_cons (clo_cons hc0 kr21 (by decide)) kl21 (by decide)) k_h0 rfl) hP (fun _ h9 => h9) rfl 11 (by decide) (hts _ (wg_t kw_176)) (fun _ h9 => h9) (cd := (3, 1, 128)) rfl dDA_makePair_64 (fun v30 hv30 => ?_)
  obtain ⟨r28, rfl, kr28⟩ := (show ∃ r : Nat, v30 = .ref r ∧ T r = some (1, 128) from hv30)
  refine lv_iconst (v := nI 0) hx hb dDA_makePair_67 (by decide) ?_
  refine lv_aload_n hx hb dDA_makePair_68 rfl (lv_at hl 3 rfl) ?_
  refine lv_iconst (v := nI 0) hx hb dDA_makePair_69 (by decide) ?_
  refine lv_bipush (v := nI 32) hx hb dDA_makePair_70 (by decide) ?_
  refine ty_copyb11 hx hb (hml.trans hl.1.symm) hown (hts _ (wg_t kw_674)) (hts _ (wg_t kw_526)) (hts _ (wg_t kw_525)) (hts _ (wg_t kw_19)) hK hO kr28 (nxg (clo_cons (clo_cons hc0 kr21 (by decide)) kl21 (by decide)) kr28 rfl) k_pk (nxg (clo_cons (clo_cons hc0 kr21 (by decide)) kl21 (by decide)) k_pk rfl) hP hD hS (sp := 0) (dp := 0) (n := 32) (by omega) (by omega) (by omega) (by decide) (Nat.le_of_ble_eq_true rfl) dDA_makePair_72 (fun pl H locs hO hP hD hS => ?_)
  refine lv_aload_n hx hb dDA_makePair_75 rfl (lv_at hl 0 rfl) ?_
  refine ty_get (ci := 6) (C := "LatticeKeys$Dsa") (TT := T_DA) (N := 17) (kd := (15, 0)) hx hb hts (wg_ft i_DA) hown hK hO k_h0 (nxg (clo_cons (clo_cons hc0 kr21 (by decide)) kl21 (by decide)) k_h0 rfl) hP (fun _ h9 => h9) rfl 11 (by decide) (hts _ (wg_t kw_176)) (fun _ h9 => h9) (cd := (3, 1, 128)) rfl dDA_makePair_76 (fun v31 hv31 => ?_)
  obtain ⟨r29, rfl, kr29⟩ := (show ∃ r : Nat, v31 = .ref r ∧ T r = some (1, 128) from hv31)
  refine lv_iconst (v := nI 0) hx hb dDA_makePair_79 (by decide) ?_
  refine lv_aload hx hb dDA_makePair_80 (lv_at hl 4 rfl) ?_
  refine lv_iconst (v := nI 0) hx hb dDA_makePair_82 (by decide) ?_
  refine lv_bipush (v := nI 32) hx hb dDA_makePair_83 (by decide) ?_
  refine ty_copyb11 hx hb (hml.trans hl.1.symm) hown (hts _ (wg_t kw_674)) (hts _ (wg_t kw_526)) (hts _ (wg_t kw_525)) (hts _ (wg_t kw_19)) hK hO kr29 (nxg (clo_cons (clo_cons hc0 kr21 (by decide)) kl21 (by decide)) kr29 rfl) k_sk (nxg (clo_cons (clo_cons hc0 kr21 (by decide)) kl21 (by decide)) k_sk rfl) hP hD hS (sp := 0) (dp := 0) (n := 32) (by omega) (by omega) (by omega) (by decide) (Nat.le_of_ble_eq_true rfl) dDA_makePair_85 (fun pl H locs hO hP hD hS => ?_)
  refine lv_aload_n hx hb dDA_makePair_88 rfl (lv_at hl 0 rfl) ?_
  refine ty_get (ci := 6) (C := "LatticeKeys$Dsa") (TT := T_DA) (N := 17) (kd := (15, 0)) hx hb hts (wg_ft i_DA) hown hK hO k_h0 (nxg (clo_cons (clo_cons hc0 kr21 (by decide)) kl21 (by decide)) k_h0 rfl) hP (fun _ h9 => h9) rfl 11 (by decide) (hts _ (wg_t kw_176)) (fun _ h9 => h9) (cd := (3, 1, 128)) rfl dDA_makePair_89 (fun v32 hv32 => ?_)
  obtain ⟨r30, rfl, kr30⟩ := (show ∃ r : Nat, v32 = .ref r ∧ T r = some (1, 128) from hv32)
  refine lv_bipush (v := nI 96) hx hb dDA_makePair_92 (by decide) ?_
  refine lv_aload hx hb dDA_makePair_94 (lv_at hl 4 rfl) ?_
  refine lv_bipush (v := nI 32) hx hb dDA_makePair_96 (by decide) ?_
  refine lv_bipush (v := nI 32) hx hb dDA_makePair_98 (by decide) ?_
  refine ty_copyb11 hx hb (hml.trans hl.1.symm) hown (hts _ (wg_t kw_674)) (hts _ (wg_t kw_526)) (hts _ (wg_t kw_525)) (hts _ (wg_t kw_19)) hK hO kr30 (nxg (clo_cons (clo_cons hc0 kr21 (by decide)) kl21 (by decide)) kr30 rfl) k_sk (nxg (clo_cons (clo_cons hc0 kr21 (by decide)) kl21 (by decide)) k_sk rfl) hP hD hS (sp := 96) (dp := 32) (n := 32) (by omega) (by omega) (by omega) (by decide) (Nat.le_of_ble_eq_true rfl) dDA_makePair_100 (fun pl H locs hO hP hD hS => ?_)
  refine lv_aload_n hx hb dDA_makePair_103 rfl (lv_at hl 0 rfl) ?_
  refine lv_aload_n hx hb dDA_makePair_104 rfl (lv_at hl 1 rfl) ?_
  refine lv_aload hx hb dDA_makePair_105 (lv_at hl 4 rfl) ?_
  refine mp_v (cx := []) (wr := [(r21, .inr (3, [.ref ln21, .int (nI 136), .int (nI 31), .int (nI k24)])), (ln21, .inl (g.2.1 2, 25, .inr (.inl f25)))]) hP hD hS hA [] [0, 1] rfl rfl rfl (by decide) (va_runV (As := [.ref st, .ref sk]) (rest := []) F (t_DA_writeSmallVectors_1 l g _ T (ln21 :: (r21 :: xs)) pl hO hU (clo_cons (clo_cons hc0 kr21 (by decide)) kl21 (by decide)) (clo_cons (clo_cons hc4 kr21 (by decide)) kl21 (by decide)) h0 st sk k_h0 k_st k_sk) (cwV 2 hts (wg_app (wg_c kw_675 (wg_c kw_677 (wg_c ks_11 (wg_c kw_5 wg_n)))) kw_678) rfl rfl rfl (by decide +kernel) ⟨by decide, by decide⟩) (pp_VT (en_ok g) (ci := 6) (kd := (15, 0)) hK hO k_h0 (nxg (clo_cons (clo_cons hc0 kr21 (by decide)) kl21 (by decide)) k_h0 rfl) (fun _ h9 => ko1 h9) hP hD hS hA hE [] rfl rfl rfl) rfl rfl hl.1 rfl (lv_room (Nat.le_of_ble_eq_true rfl)) dDA_makePair_107 ⟨by omega, by omega⟩) (fun  pl H locs hu27 hP hD hS => ?_)
  obtain ⟨hq27, hO⟩ := hu27
  have hP : va_P g.1 vcl ([(r21, .inr (3, [.ref ln21, .int (nI 136), .int (nI 31), .int (nI k24)])), (ln21, .inl (g.2.1 2, 25, .inr (.inl f25)))] ++ pl) _ := hP
  have hD : va_D _ ([(r21, .inr (3, [.ref ln21, .int (nI 136), .int (nI 31), .int (nI k24)])), (ln21, .inl (g.2.1 2, 25, .inr (.inl f25)))] ++ pl) := hD
  refine W.widen (k := 0) (n := 0) (by omega) (by omega) ?_
  refine lv_aload_n hx hb dDA_makePair_110 rfl (lv_at hl 0 rfl) ?_
  refine ty_get (ci := 6) (C := "LatticeKeys$Dsa") (TT := T_DA) (N := 17) (kd := (15, 0)) hx hb hts (wg_ft i_DA) hown hK hO k_h0 (nxg (clo_cons (clo_cons hc0 kr21 (by decide)) kl21 (by decide)) k_h0 rfl) hP (fun _ h9 => h9) rfl 2 (by decide) (hts _ (wg_t kw_167)) (fun _ h9 => h9) (cd := (3, 14, 0)) rfl dDA_makePair_111 (fun v33 hv33 => ?_)
  obtain ⟨r31, rfl, kr31⟩ := (show ∃ r : Nat, v33 = .ref r ∧ T r = some (14, 0) from hv33)
  refine lv_aload_n hx hb dDA_makePair_114 rfl (lv_at hl 1 rfl) ?_
  refine lv_aload_n hx hb dDA_makePair_115 rfl (lv_at hl 3 rfl) ?_
  refine lv_aload_n hx hb dDA_makePair_116 rfl (lv_at hl 0 rfl) ?_
  refine ty_get (ci := 6) (C := "LatticeKeys$Dsa") (TT := T_DA) (N := 17) (kd := (15, 0)) hx hb hts (wg_ft i_DA) hown hK hO k_h0 (nxg (clo_cons (clo_cons hc0 kr21 (by decide)) kl21 (by decide)) k_h0 rfl) hP (fun _ h9 => h9) rfl 3 (by decide) (hts _ (wg_t kw_168)) (fun _ h9 => h9) (cd := (3, 3, 56)) rfl dDA_makePair_117 (fun v34 hv34 => ?_)
  obtain ⟨r32, rfl, kr32⟩ := (show ∃ r : Nat, v34 = .ref r ∧ T r = some (3, 56) from hv34)
  refine mp_v (cx := []) (wr := [(r21, .inr (3, [.ref ln21, .int (nI 136), .int (nI 31), .int (nI k24)])), (ln21, .inl (g.2.1 2, 25, .inr (.inl f25)))]) hP hD hS hA [] [0, 1] rfl rfl rfl (by decide) (va_runV (As := [.ref st, .ref pk, .ref r32]) (rest := []) F (t_SA_expandMatrix_1 l g _ T (ln21 :: (r21 :: xs)) pl hO hU (clo_cons (clo_cons hc0 kr21 (by decide)) kl21 (by decide)) (clo_cons (clo_cons hc4 kr21 (by decide)) kl21 (by decide)) r31 st pk r32 1952 kr31 k_st k_pk kr32 (by omega) (by omega)) (cwV 3 hts (wg_app (wg_c kw_703 (wg_c kw_704 (wg_c kw_705 (wg_c kw_6 wg_n)))) kw_706) rfl rfl rfl (by decide +kernel) ⟨by decide, by decide⟩) (pp_VT (en_ok g) (ci := 7) (kd := (14, 0)) hK hO kr31 (nxg (clo_cons (clo_cons hc0 kr21 (by decide)) kl21 (by decide)) kr31 rfl) (fun _ h9 => ko1 h9) hP hD hS hA hE [] rfl rfl rfl) rfl rfl hl.1 rfl (lv_room (Nat.le_of_ble_eq_true rfl)) dDA_makePair_120 ⟨by omega, by omega⟩) (fun  pl H locs hu28 hP hD hS => ?_)
  obtain ⟨hq28, hO⟩ := hu28
  have hP : va_P g.1 vcl ([(r21, .inr (3, [.ref ln21, .int (nI 136), .int (nI 31), .int (nI k24)])), (ln21, .inl (g.2.1 2, 25, .inr (.inl f25)))] ++ pl) _ := hP
  have hD : va_D _ ([(r21, .inr (3, [.ref ln21, .int (nI 136), .int (nI 31), .int (nI k24)])), (ln21, .inl (g.2.1 2, 25, .inr (.inl f25)))] ++ pl) := hD
  refine W.widen (k := 0) (n := 0) (by omega) (by omega) ?_
  refine lv_iconst (v := nI 0) hx hb dDA_makePair_123 (by decide) ?_
  refine lv_istore (lv' := [(5, .int (nI 0)), (0, .ref h0), (1, .ref st), (2, .ref ch), (3, .ref pk), (4, .ref sk)]) hx hb dDA_makePair_124 hl (by decide) rfl (fun ls hl => ?_)
  have hO := close1 (e := .inl (g.2.1 2, 25, .inr (.inl f25))) hO kl21 ⟨_, rfl⟩
  have hO := close1 (e := .inr (3, [.ref ln21, .int (nI 136), .int (nI 31), .int (nI k24)])) hO kr21 ⟨_, _, _, _, rfl, kl21, by omega, by omega, by omega⟩
  have hO : okx g T xs ((r21, .inr (3, [.ref ln21, .int (nI 136), .int (nI 31), .int (nI k24)])) :: (ln21, .inl (g.2.1 2, 25, .inr (.inl f25))) :: pl) := hO
  have hP : va_P g.1 vcl ([] ++ ((r21, .inr (3, [.ref ln21, .int (nI 136), .int (nI 31), .int (nI k24)])) :: (ln21, .inl (g.2.1 2, 25, .inr (.inl f25))) :: pl)) _ := hP
  have hD : va_D _ ([] ++ ((r21, .inr (3, [.ref ln21, .int (nI 136), .int (nI 31), .int (nI k24)])) :: (ln21, .inl (g.2.1 2, 25, .inr (.inl f25))) :: pl)) := hD
  generalize ((r21, .inr (3, [.ref ln21, .int (nI 136), .int (nI 31), .int (nI k24)])) :: (ln21, .inl (g.2.1 2, 25, .inr (.inl f25))) :: pl) = pl at hO hP hD
  have lp21 : ∀ (n21 : Nat) (i21 : Nat) (pl : va_W) (ls : Array Slot) (H : Heap) (locs : List Loc), n21 + i21 = 5 → lv_has ls 7 [(5, .int (nI i21)), (0, .ref h0), (1, .ref st), (3, .ref pk), (4, .ref sk)] → okx g T xs pl → va_P g.1 vcl ([] ++ pl) H → va_D A ([] ++ pl) → va_S A s.heap H locs → W p l e ({ frames := 6, cells := 0, slots := 0, locals := 176 } : Room) s m args below meth c H locs 0 0 (MQ below (va_Qv (fun (u : va_W) => (True) ∧ okx g T xs u) (po g.1 vcl A (fun (u : va_W) => [] ++ u)) A) args s 0 0 A) (F0 m 126 ls []) := by
    intro n21
    induction n21 with
    | zero =>
      intro i21 pl ls H locs hm21  hl hO hP hD hS
      refine lv_iload hx hb dDA_makePair_126 (lv_at hl 0 rfl) ?_
      refine lv_aload_n hx hb dDA_makePair_128 rfl (lv_at hl 2 rfl) ?_
      refine ty_get (ci := 2) (C := "LatticeKeys$DsaSet") (TT := T_DS) (N := 17) (kd := (44, 0)) hx hb hts (wg_ft i_DS) hown hK hO k_st (nxg hc0 k_st rfl) hP (fun _ h9 => h9) rfl 1 (by decide) (hts _ (wg_t kw_305)) (fun _ h9 => h9) (cd := (1, 0, 5)) rfl dDA_makePair_129 (fun v35 hv35 => ?_)
      obtain rfl := (show v35 = .int (nI 5) from hv35)
      refine mi_ge (tgt := 155) hx hb dDA_makePair_132 (by decide) (by omega) (by omega) (fun h21 => ?_) (fun h21 => absurd h21 (by omega))
      refine lv_sipush (v := nI 128) hx hb dDA_makePair_155 (by decide) ?_
      refine lv_bipush (v := nI 32) hx hb dDA_makePair_158 (by decide) ?_
      refine lv_aload_n hx hb dDA_makePair_160 rfl (lv_at hl 2 rfl) ?_
      refine ty_get (ci := 2) (C := "LatticeKeys$DsaSet") (TT := T_DS) (N := 17) (kd := (44, 0)) hx hb hts (wg_ft i_DS) hown hK hO k_st (nxg hc0 k_st rfl) hP (fun _ h9 => h9) rfl 3 (by decide) (hts _ (wg_t kw_310)) (fun _ h9 => h9) (cd := (1, 0, 4)) rfl dDA_makePair_161 (fun v36 hv36 => ?_)
      obtain rfl := (show v36 = .int (nI 4) from hv36)
      refine mi_imul hx hb dDA_makePair_164 ?_
      refine mi_as (show nI (32 * 4) = nI 128 from rfl) ?_
      refine lv_aload_n hx hb dDA_makePair_165 rfl (lv_at hl 2 rfl) ?_
      refine ty_get (ci := 2) (C := "LatticeKeys$DsaSet") (TT := T_DS) (N := 17) (kd := (44, 0)) hx hb hts (wg_ft i_DS) hown hK hO k_st (nxg hc0 k_st rfl) hP (fun _ h9 => h9) rfl 0 (by decide) (hts _ (wg_t kw_302)) (fun _ h9 => h9) (cd := (1, 0, 6)) rfl dDA_makePair_166 (fun v37 hv37 => ?_)
      obtain rfl := (show v37 = .int (nI 6) from hv37)
      refine lv_aload_n hx hb dDA_makePair_169 rfl (lv_at hl 2 rfl) ?_
      refine ty_get (ci := 2) (C := "LatticeKeys$DsaSet") (TT := T_DS) (N := 17) (kd := (44, 0)) hx hb hts (wg_ft i_DS) hown hK hO k_st (nxg hc0 k_st rfl) hP (fun _ h9 => h9) rfl 1 (by decide) (hts _ (wg_t kw_305)) (fun _ h9 => h9) (cd := (1, 0, 5)) rfl dDA_makePair_170 (fun v38 hv38 => ?_)
      obtain rfl := (show v38 = .int (nI 5) from hv38)
      refine mi_iadd hx hb dDA_makePair_173 ?_
      refine mi_as (show nI (6 + 5) = nI 11 from rfl) ?_
      refine mi_imul hx hb dDA_makePair_174 ?_
      refine mi_as (show nI (128 * 11) = nI 1408 from rfl) ?_
      refine mi_iadd hx hb dDA_makePair_175 ?_
      refine mi_as (show nI (128 + 1408) = nI 1536 from rfl) ?_
      refine lv_istore (lv' := [(5, .int (nI 1536)), (0, .ref h0), (1, .ref st), (3, .ref pk), (4, .ref sk)]) hx hb dDA_makePair_176 hl (by decide) rfl (fun ls hl => ?_)
      refine lv_iconst (v := nI 0) hx hb dDA_makePair_178 (by decide) ?_
      refine lv_istore (lv' := [(6, .int (nI 0)), (5, .int (nI 1536)), (0, .ref h0), (1, .ref st), (3, .ref pk), (4, .ref sk)]) hx hb dDA_makePair_179 hl (by decide) rfl (fun ls hl => ?_)
      have lp22 : ∀ (n22 : Nat) (i22 : Nat) (pl : va_W) (ls : Array Slot) (H : Heap) (locs : List Loc), n22 + i22 = 6 → lv_has ls 7 [(6, .int (nI i22)), (5, .int (nI 1536)), (0, .ref h0), (1, .ref st), (3, .ref pk), (4, .ref sk)] → okx g T xs pl → va_P g.1 vcl ([] ++ pl) H → va_D A ([] ++ pl) → va_S A s.heap H locs → W p l e ({ frames := 6, cells := 0, slots := 0, locals := 176 } : Room) s m args below meth c H locs 0 0 (MQ below (va_Qv (fun (u : va_W) => (True) ∧ okx g T xs u) (po g.1 vcl A (fun (u : va_W) => [] ++ u)) A) args s 0 0 A) (F0 m 181 ls []) := by
        intro n22
        induction n22 with
        | zero =>
          intro i22 pl ls H locs hm22  hl hO hP hD hS
          refine lv_iload hx hb dDA_makePair_181 (lv_at hl 0 rfl) ?_
          refine lv_aload_n hx hb dDA_makePair_183 rfl (lv_at hl 3 rfl) ?_
          refine ty_get (ci := 2) (C := "LatticeKeys$DsaSet") (TT := T_DS) (N := 17) (kd := (44, 0)) hx hb hts (wg_ft i_DS) hown hK hO k_st (nxg hc0 k_st rfl) hP (fun _ h9 => h9) rfl 0 (by decide) (hts _ (wg_t kw_302)) (fun _ h9 => h9) (cd := (1, 0, 6)) rfl dDA_makePair_184 (fun v39 hv39 => ?_)
          obtain rfl := (show v39 = .int (nI 6) from hv39)
          refine mi_ge (tgt := 295) hx hb dDA_makePair_187 (by decide) (by omega) (by omega) (fun h22 => ?_) (fun h22 => absurd h22 (by omega))
          refine lv_aload_n hx hb dDA_makePair_295 rfl (lv_at hl 2 rfl) ?_
          refine lv_aload_n hx hb dDA_makePair_296 rfl (lv_at hl 4 rfl) ?_
          refine mp_v (cx := []) (wr := []) hP hD hS hA [] [] rfl rfl rfl (by decide) (va_runV (As := [.ref pk]) (rest := []) F (t_DA_digestOf l g _ T xs pl hO hU hc0 hc3 h0 pk 1952 k_h0 k_pk (by omega)) (cwV 1 hts (wg_app (wg_c kw_736 (wg_c kw_738 (wg_c ks_18 (wg_c kw_5 wg_n)))) kw_739) rfl rfl rfl (by decide +kernel) ⟨by decide, by decide⟩) (pp_VT (en_ok g) (ci := 6) (kd := (15, 0)) hK hO k_h0 (nxg hc0 k_h0 rfl) (fun _ h9 => ko1 h9) hP hD hS hA hE [] rfl rfl rfl) rfl rfl hl.1 rfl (lv_room (Nat.le_of_ble_eq_true rfl)) dDA_makePair_297 ⟨by omega, by omega⟩) (fun  pl H locs hu29 hP hD hS => ?_)
          obtain ⟨hq29, hO⟩ := hu29
          have hP : va_P g.1 vcl ([] ++ pl) _ := hP
          have hD : va_D _ ([] ++ pl) := hD
          refine W.widen (k := 0) (n := 0) (by omega) (by omega) ?_
          refine lv_aload_n hx hb dDA_makePair_300 rfl (lv_at hl 2 rfl) ?_
          refine ty_get (ci := 6) (C := "LatticeKeys$Dsa") (TT := T_DA) (N := 17) (kd := (15, 0)) hx hb hts (wg_ft i_DA) hown hK hO k_h0 (nxg hc0 k_h0 rfl) hP (fun _ h9 => h9) rfl 12 (by decide) (hts _ (wg_t kw_177)) (fun _ h9 => h9) (cd := (3, 1, 64)) rfl dDA_makePair_301 (fun v40 hv40 => ?_)
          obtain ⟨r33, rfl, kr33⟩ := (show ∃ r : Nat, v40 = .ref r ∧ T r = some (1, 64) from hv40)
          refine lv_iconst (v := nI 0) hx hb dDA_makePair_304 (by decide) ?_
          refine lv_aload hx hb dDA_makePair_305 (lv_at hl 5 rfl) ?_
          refine lv_bipush (v := nI 64) hx hb dDA_makePair_307 (by decide) ?_
          refine lv_bipush (v := nI 64) hx hb dDA_makePair_309 (by decide) ?_
          refine ty_copyb11 hx hb (hml.trans hl.1.symm) hown (hts _ (wg_t kw_674)) (hts _ (wg_t kw_526)) (hts _ (wg_t kw_525)) (hts _ (wg_t kw_19)) hK hO kr33 (nxg hc0 kr33 rfl) k_sk (nxg hc0 k_sk rfl) hP hD hS (sp := 0) (dp := 64) (n := 64) (by omega) (by omega) (by omega) (by decide) (Nat.le_of_ble_eq_true rfl) dDA_makePair_311 (fun pl H locs hO hP hD hS => ?_)
          exact mp_vret hx hb hr hlk hP hD hS pl ⟨trivial, hO⟩ [] rfl rfl rfl (by omega) (by omega) dDA_makePair_314
        | succ n22 ih22 =>
          intro i22 pl ls H locs hm22  hl hO hP hD hS
          refine lv_iload hx hb dDA_makePair_181 (lv_at hl 0 rfl) ?_
          refine lv_aload_n hx hb dDA_makePair_183 rfl (lv_at hl 3 rfl) ?_
          refine ty_get (ci := 2) (C := "LatticeKeys$DsaSet") (TT := T_DS) (N := 17) (kd := (44, 0)) hx hb hts (wg_ft i_DS) hown hK hO k_st (nxg hc0 k_st rfl) hP (fun _ h9 => h9) rfl 0 (by decide) (hts _ (wg_t kw_302)) (fun _ h9 => h9) (cd := (1, 0, 6)) rfl dDA_makePair_184 (fun v41 hv41 => ?_)
          obtain rfl := (show v41 = .int (nI 6) from hv41)
          refine mi_ge (tgt := 295) hx hb dDA_makePair_187 (by decide) (by omega) (by omega) (fun h23 => absurd h23 (by omega)) (fun h23 => ?_)
          refine lv_aload_n hx hb dDA_makePair_190 rfl (lv_at hl 2 rfl) ?_
          refine lv_aload_n hx hb dDA_makePair_191 rfl (lv_at hl 3 rfl) ?_
          refine lv_iload hx hb dDA_makePair_192 (lv_at hl 0 rfl) ?_
          refine lv_aload_n hx hb dDA_makePair_194 rfl (lv_at hl 2 rfl) ?_
          refine ty_get (ci := 6) (C := "LatticeKeys$Dsa") (TT := T_DA) (N := 17) (kd := (15, 0)) hx hb hts (wg_ft i_DA) hown hK hO k_h0 (nxg hc0 k_h0 rfl) hP (fun _ h9 => h9) rfl 4 (by decide) (hts _ (wg_t kw_169)) (fun _ h9 => h9) (cd := (3, 3, 7)) rfl dDA_makePair_195 (fun v42 hv42 => ?_)
          obtain ⟨r34, rfl, kr34⟩ := (show ∃ r : Nat, v42 = .ref r ∧ T r = some (3, 7) from hv42)
          refine mp_v (cx := []) (wr := []) hP hD hS hA [] [] rfl rfl rfl (by decide) (va_runV (As := [.ref st, .int (nI i22), .ref r34]) (rest := []) F (t_DA_multiplyRow_1 l g _ T xs pl hO hU hc0 h0 st r34 i22 k_h0 k_st kr34 (by omega)) (cwV 3 hts (wg_app (wg_c kw_712 (wg_c kw_714 (wg_c ks_15 (wg_c kw_5 wg_n)))) kw_715) rfl rfl rfl (by decide +kernel) ⟨by decide, by decide⟩) (pp_VT (en_ok g) (ci := 6) (kd := (15, 0)) hK hO k_h0 (nxg hc0 k_h0 rfl) (fun _ h9 => ko1 h9) hP hD hS hA hE [] rfl rfl rfl) rfl rfl hl.1 rfl (lv_room (Nat.le_of_ble_eq_true rfl)) dDA_makePair_198 ⟨by omega, by omega⟩) (fun  pl H locs hu30 hP hD hS => ?_)
          obtain ⟨hq30, hO⟩ := hu30
          have hP : va_P g.1 vcl ([] ++ pl) _ := hP
          have hD : va_D _ ([] ++ pl) := hD
          refine W.widen (k := 0) (n := 0) (by omega) (by omega) ?_
          refine lv_aload_n hx hb dDA_makePair_201 rfl (lv_at hl 2 rfl) ?_
          refine ty_get (ci := 6) (C := "LatticeKeys$Dsa") (TT := T_DA) (N := 17) (kd := (15, 0)) hx hb hts (wg_ft i_DA) hown hK hO k_h0 (nxg hc0 k_h0 rfl) hP (fun _ h9 => h9) rfl 1 (by decide) (hts _ (wg_t kw_166)) (fun _ h9 => h9) (cd := (3, 12, 0)) rfl dDA_makePair_202 (fun v43 hv43 => ?_)
          obtain ⟨r35, rfl, kr35⟩ := (show ∃ r : Nat, v43 = .ref r ∧ T r = some (12, 0) from hv43)
          refine lv_aload_n hx hb dDA_makePair_205 rfl (lv_at hl 2 rfl) ?_
          refine ty_get (ci := 6) (C := "LatticeKeys$Dsa") (TT := T_DA) (N := 17) (kd := (15, 0)) hx hb hts (wg_ft i_DA) hown hK hO k_h0 (nxg hc0 k_h0 rfl) hP (fun _ h9 => h9) rfl 8 (by decide) (hts _ (wg_t kw_173)) (fun _ h9 => h9) (cd := (3, 3, 8)) rfl dDA_makePair_206 (fun v44 hv44 => ?_)
          obtain ⟨r36, rfl, kr36⟩ := (show ∃ r : Nat, v44 = .ref r ∧ T r = some (3, 8) from hv44)
          refine lv_iload hx hb dDA_makePair_209 (lv_at hl 0 rfl) ?_
          refine ty_aald3 hx hb hK hO kr36 (nxg hc0 kr36 rfl) hP (by omega) (by decide) dDA_makePair_211 (fun r37 kr37 => ?_)
          refine mp_v (cx := []) (wr := []) hP hD hS hA [] [] rfl rfl rfl (by decide) (va_runV (As := [.ref r37]) (rest := []) F (t_RG_restore_12 l g _ T xs pl hO hU hc0 r35 r37 kr35 kr37) (cwV 1 hts (wg_app (wg_c kw_720 (wg_c kw_721 (wg_c kw_722 (wg_c kw_4 wg_n)))) kw_723) rfl rfl rfl (by decide +kernel) ⟨by decide, by decide⟩) (pp_VT (en_ok g) (ci := 4) (kd := (12, 0)) hK hO kr35 (nxg hc0 kr35 rfl) (fun _ h9 => ko1 h9) hP hD hS hA hE [] rfl rfl rfl) rfl rfl hl.1 rfl (lv_room (Nat.le_of_ble_eq_true rfl)) dDA_makePair_212 ⟨by omega, by omega⟩) (fun  pl H locs hu31 hP hD hS => ?_)
          obtain ⟨hq31, hO⟩ := hu31
          have hP : va_P g.1 vcl ([] ++ pl) _ := hP
          have hD : va_D _ ([] ++ pl) := hD
          refine W.widen (k := 0) (n := 0) (by omega) (by omega) ?_
          refine lv_aload_n hx hb dDA_makePair_215 rfl (lv_at hl 2 rfl) ?_
          refine ty_get (ci := 6) (C := "LatticeKeys$Dsa") (TT := T_DA) (N := 17) (kd := (15, 0)) hx hb hts (wg_ft i_DA) hown hK hO k_h0 (nxg hc0 k_h0 rfl) hP (fun _ h9 => h9) rfl 1 (by decide) (hts _ (wg_t kw_166)) (fun _ h9 => h9) (cd := (3, 12, 0)) rfl dDA_makePair_216 (fun v45 hv45 => ?_)
          obtain ⟨r38, rfl, kr38⟩ := (show ∃ r : Nat, v45 = .ref r ∧ T r = some (12, 0) from hv45)
          refine lv_aload_n hx hb dDA_makePair_219 rfl (lv_at hl 2 rfl) ?_
          refine ty_get (ci := 6) (C := "LatticeKeys$Dsa") (TT := T_DA) (N := 17) (kd := (15, 0)) hx hb hts (wg_ft i_DA) hown hK hO k_h0 (nxg hc0 k_h0 rfl) hP (fun _ h9 => h9) rfl 8 (by decide) (hts _ (wg_t kw_173)) (fun _ h9 => h9) (cd := (3, 3, 8)) rfl dDA_makePair_220 (fun v46 hv46 => ?_)
          obtain ⟨r39, rfl, kr39⟩ := (show ∃ r : Nat, v46 = .ref r ∧ T r = some (3, 8) from hv46)
          refine lv_iload hx hb dDA_makePair_223 (lv_at hl 0 rfl) ?_
          refine ty_aald3 hx hb hK hO kr39 (nxg hc0 kr39 rfl) hP (by omega) (by decide) dDA_makePair_225 (fun r40 kr40 => ?_)
          refine lv_aload_n hx hb dDA_makePair_226 rfl (lv_at hl 2 rfl) ?_
          refine ty_get (ci := 6) (C := "LatticeKeys$Dsa") (TT := T_DA) (N := 17) (kd := (15, 0)) hx hb hts (wg_ft i_DA) hown hK hO k_h0 (nxg hc0 k_h0 rfl) hP (fun _ h9 => h9) rfl 5 (by decide) (hts _ (wg_t kw_170)) (fun _ h9 => h9) (cd := (3, 3, 8)) rfl dDA_makePair_227 (fun v47 hv47 => ?_)
          obtain ⟨r41, rfl, kr41⟩ := (show ∃ r : Nat, v47 = .ref r ∧ T r = some (3, 8) from hv47)
          refine lv_iload hx hb dDA_makePair_230 (lv_at hl 0 rfl) ?_
          refine ty_aald3 hx hb hK hO kr41 (nxg hc0 kr41 rfl) hP (by omega) (by decide) dDA_makePair_232 (fun r42 kr42 => ?_)
          refine mp_v (cx := []) (wr := []) hP hD hS hA [] [] rfl rfl rfl (by decide) (va_runV (As := [.ref r40, .ref r42]) (rest := []) F (t_RG_add_12 l g _ T xs pl hO hU hc0 r38 r40 r42 kr38 kr40 kr42) (cwV 2 hts (wg_app (wg_c kw_728 (wg_c kw_729 (wg_c kw_730 (wg_c kw_4 wg_n)))) kw_731) rfl rfl rfl (by decide +kernel) ⟨by decide, by decide⟩) (pp_VT (en_ok g) (ci := 4) (kd := (12, 0)) hK hO kr38 (nxg hc0 kr38 rfl) (fun _ h9 => ko1 h9) hP hD hS hA hE [] rfl rfl rfl) rfl rfl hl.1 rfl (lv_room (Nat.le_of_ble_eq_true rfl)) dDA_makePair_233 ⟨by omega, by omega⟩) (fun  pl H locs hu32 hP hD hS => ?_)
          obtain ⟨hq32, hO⟩ := hu32
          have hP : va_P g.1 vcl ([] ++ pl) _ := hP
          have hD : va_D _ ([] ++ pl) := hD
          refine W.widen (k := 0) (n := 0) (by omega) (by omega) ?_
          refine lv_aload_n hx hb dDA_makePair_236 rfl (lv_at hl 2 rfl) ?_
          refine lv_aload_n hx hb dDA_makePair_237 rfl (lv_at hl 2 rfl) ?_
          refine ty_get (ci := 6) (C := "LatticeKeys$Dsa") (TT := T_DA) (N := 17) (kd := (15, 0)) hx hb hts (wg_ft i_DA) hown hK hO k_h0 (nxg hc0 k_h0 rfl) hP (fun _ h9 => h9) rfl 8 (by decide) (hts _ (wg_t kw_173)) (fun _ h9 => h9) (cd := (3, 3, 8)) rfl dDA_makePair_238 (fun v48 hv48 => ?_)
          obtain ⟨r43, rfl, kr43⟩ := (show ∃ r : Nat, v48 = .ref r ∧ T r = some (3, 8) from hv48)
          refine lv_iload hx hb dDA_makePair_241 (lv_at hl 0 rfl) ?_
          refine ty_aald3 hx hb hK hO kr43 (nxg hc0 kr43 rfl) hP (by omega) (by decide) dDA_makePair_243 (fun r44 kr44 => ?_)
          refine mp_v (cx := []) (wr := []) hP hD hS hA [] [] rfl rfl rfl (by decide) (va_runV (As := [.ref r44]) (rest := []) F (t_DA_splitRow l g _ T xs pl hO hU hc0 h0 r44 k_h0 kr44) (cwV 1 hts (wg_app (wg_c kw_732 (wg_c kw_734 (wg_c ks_17 (wg_c kw_5 wg_n)))) kw_735) rfl rfl rfl (by decide +kernel) ⟨by decide, by decide⟩) (pp_VT (en_ok g) (ci := 6) (kd := (15, 0)) hK hO k_h0 (nxg hc0 k_h0 rfl) (fun _ h9 => ko1 h9) hP hD hS hA hE [] rfl rfl rfl) rfl rfl hl.1 rfl (lv_room (Nat.le_of_ble_eq_true rfl)) dDA_makePair_244 ⟨by omega, by omega⟩) (fun  pl H locs hu33 hP hD hS => ?_)
          obtain ⟨hq33, hO⟩ := hu33
          have hP : va_P g.1 vcl ([] ++ pl) _ := hP
          have hD : va_D _ ([] ++ pl) := hD
          refine W.widen (k := 0) (n := 0) (by omega) (by omega) ?_
          refine lv_aload_n hx hb dDA_makePair_247 rfl (lv_at hl 2 rfl) ?_
          refine ty_get (ci := 6) (C := "LatticeKeys$Dsa") (TT := T_DA) (N := 17) (kd := (15, 0)) hx hb hts (wg_ft i_DA) hown hK hO k_h0 (nxg hc0 k_h0 rfl) hP (fun _ h9 => h9) rfl 8 (by decide) (hts _ (wg_t kw_173)) (fun _ h9 => h9) (cd := (3, 3, 8)) rfl dDA_makePair_248 (fun v49 hv49 => ?_)
          obtain ⟨r45, rfl, kr45⟩ := (show ∃ r : Nat, v49 = .ref r ∧ T r = some (3, 8) from hv49)
          refine lv_iload hx hb dDA_makePair_251 (lv_at hl 0 rfl) ?_
          refine ty_aald3 hx hb hK hO kr45 (nxg hc0 kr45 rfl) hP (by omega) (by decide) dDA_makePair_253 (fun r46 kr46 => ?_)
          refine lv_bipush (v := nI 10) hx hb dDA_makePair_254 (by decide) ?_
          refine lv_aload_n hx hb dDA_makePair_256 rfl (lv_at hl 4 rfl) ?_
          refine lv_bipush (v := nI 32) hx hb dDA_makePair_257 (by decide) ?_
          refine lv_sipush (v := nI 320) hx hb dDA_makePair_259 (by decide) ?_
          refine lv_iload hx hb dDA_makePair_262 (lv_at hl 0 rfl) ?_
          refine mi_imul hx hb dDA_makePair_264 ?_
          refine mi_iadd hx hb dDA_makePair_265 ?_
          refine mp_v (cx := []) (wr := []) hP hD hS hA [] [] rfl rfl rfl (by decide) (va_runS (As := [.ref r46, .int (nI 10), .ref pk, .int (nI (32 + (320 * i22)))]) (rest := []) F (t_BT_pack l g _ T xs pl hO hU hc0 r46 pk 1952 10 (32 + (320 * i22)) kr46 k_pk (by omega) (by omega) (by omega)) (va_cwS 4 hts (wg_app (wg_c kw_702 (wg_c kw_645 (wg_c kw_22 wg_n))) kw_646) rfl rfl rfl (by decide +kernel) ⟨by decide, by decide⟩) (pp_S (en_ok g) hP hD hS hA hE [] rfl rfl) rfl rfl hl.1 rfl (lv_room (Nat.le_of_ble_eq_true rfl)) dDA_makePair_266 ⟨by omega, by omega⟩) (fun  pl H locs hu34 hP hD hS => ?_)
          obtain ⟨hq34, hO⟩ := hu34
          have hP : va_P g.1 vcl ([] ++ pl) _ := hP
          have hD : va_D _ ([] ++ pl) := hD
          refine W.widen (k := 0) (n := 0) (by omega) (by omega) ?_
          refine lv_aload_n hx hb dDA_makePair_269 rfl (lv_at hl 2 rfl) ?_
          refine ty_get (ci := 6) (C := "LatticeKeys$Dsa") (TT := T_DA) (N := 17) (kd := (15, 0)) hx hb hts (wg_ft i_DA) hown hK hO k_h0 (nxg hc0 k_h0 rfl) hP (fun _ h9 => h9) rfl 10 (by decide) (hts _ (wg_t kw_175)) (fun _ h9 => h9) (cd := (3, 0, 256)) rfl dDA_makePair_270 (fun v50 hv50 => ?_)
          obtain ⟨r47, rfl, kr47⟩ := (show ∃ r : Nat, v50 = .ref r ∧ T r = some (0, 256) from hv50)
          refine lv_bipush (v := nI 13) hx hb dDA_makePair_273 (by decide) ?_
          refine lv_aload hx hb dDA_makePair_275 (lv_at hl 5 rfl) ?_
          refine lv_iload hx hb dDA_makePair_277 (lv_at hl 1 rfl) ?_
          refine lv_sipush (v := nI 416) hx hb dDA_makePair_279 (by decide) ?_
          refine lv_iload hx hb dDA_makePair_282 (lv_at hl 0 rfl) ?_
          refine mi_imul hx hb dDA_makePair_284 ?_
          refine mi_iadd hx hb dDA_makePair_285 ?_
          refine mp_v (cx := []) (wr := []) hP hD hS hA [] [] rfl rfl rfl (by decide) (va_runS (As := [.ref r47, .int (nI 13), .ref sk, .int (nI (1536 + (416 * i22)))]) (rest := []) F (t_BT_pack l g _ T xs pl hO hU hc0 r47 sk 4032 13 (1536 + (416 * i22)) kr47 k_sk (by omega) (by omega) (by omega)) (va_cwS 4 hts (wg_app (wg_c kw_702 (wg_c kw_645 (wg_c kw_22 wg_n))) kw_646) rfl rfl rfl (by decide +kernel) ⟨by decide, by decide⟩) (pp_S (en_ok g) hP hD hS hA hE [] rfl rfl) rfl rfl hl.1 rfl (lv_room (Nat.le_of_ble_eq_true rfl)) dDA_makePair_286 ⟨by omega, by omega⟩) (fun  pl H locs hu35 hP hD hS => ?_)
          obtain ⟨hq35, hO⟩ := hu35
          have hP : va_P g.1 vcl ([] ++ pl) _ := hP
          have hD : va_D _ ([] ++ pl) := hD
          refine W.widen (k := 0) (n := 0) (by omega) (by omega) ?_
          refine mi_iinc (k := 0) (x := i22) (d := 1) (y := i22 + 1) (lv' := [(6, .int (nI (i22 + 1))), (5, .int (nI 1536)), (0, .ref h0), (1, .ref st), (3, .ref pk), (4, .ref sk)]) hx hb dDA_makePair_289 hl rfl (by decide) rfl (by decide) rfl (fun ls hl => ?_)
          refine lv_goto (tgt := 181) hx hb dDA_makePair_292 (by decide) ?_
          exact ih22 (i22 + 1) pl ls H locs (by omega) (lv_sub hl [0, 1, 2, 3, 4, 5] rfl) hO hP hD hS
      exact lp22 6 0 pl ls _ _ (by omega) (lv_sub hl [0, 1, 2, 3, 4, 5] rfl) hO hP hD hS
    | succ n21 ih21 =>
      intro i21 pl ls H locs hm21  hl hO hP hD hS
      refine lv_iload hx hb dDA_makePair_126 (lv_at hl 0 rfl) ?_
      refine lv_aload_n hx hb dDA_makePair_128 rfl (lv_at hl 2 rfl) ?_
      refine ty_get (ci := 2) (C := "LatticeKeys$DsaSet") (TT := T_DS) (N := 17) (kd := (44, 0)) hx hb hts (wg_ft i_DS) hown hK hO k_st (nxg hc0 k_st rfl) hP (fun _ h9 => h9) rfl 1 (by decide) (hts _ (wg_t kw_305)) (fun _ h9 => h9) (cd := (1, 0, 5)) rfl dDA_makePair_129 (fun v51 hv51 => ?_)
      obtain rfl := (show v51 = .int (nI 5) from hv51)
      refine mi_ge (tgt := 155) hx hb dDA_makePair_132 (by decide) (by omega) (by omega) (fun h24 => absurd h24 (by omega)) (fun h24 => ?_)
      refine lv_aload_n hx hb dDA_makePair_135 rfl (lv_at hl 1 rfl) ?_
      refine ty_get (ci := 6) (C := "LatticeKeys$Dsa") (TT := T_DA) (N := 17) (kd := (15, 0)) hx hb hts (wg_ft i_DA) hown hK hO k_h0 (nxg hc0 k_h0 rfl) hP (fun _ h9 => h9) rfl 1 (by decide) (hts _ (wg_t kw_166)) (fun _ h9 => h9) (cd := (3, 12, 0)) rfl dDA_makePair_136 (fun v52 hv52 => ?_)
      obtain ⟨r48, rfl, kr48⟩ := (show ∃ r : Nat, v52 = .ref r ∧ T r = some (12, 0) from hv52)
      refine lv_aload_n hx hb dDA_makePair_139 rfl (lv_at hl 1 rfl) ?_
      refine ty_get (ci := 6) (C := "LatticeKeys$Dsa") (TT := T_DA) (N := 17) (kd := (15, 0)) hx hb hts (wg_ft i_DA) hown hK hO k_h0 (nxg hc0 k_h0 rfl) hP (fun _ h9 => h9) rfl 4 (by decide) (hts _ (wg_t kw_169)) (fun _ h9 => h9) (cd := (3, 3, 7)) rfl dDA_makePair_140 (fun v53 hv53 => ?_)
      obtain ⟨r49, rfl, kr49⟩ := (show ∃ r : Nat, v53 = .ref r ∧ T r = some (3, 7) from hv53)
      refine lv_iload hx hb dDA_makePair_143 (lv_at hl 0 rfl) ?_
      refine ty_aald3 hx hb hK hO kr49 (nxg hc0 kr49 rfl) hP (by omega) (by decide) dDA_makePair_145 (fun r50 kr50 => ?_)
      refine mp_v (cx := []) (wr := []) hP hD hS hA [] [] rfl rfl rfl (by decide) (va_runV (As := [.ref r50]) (rest := []) F (t_RG_transform_12 l g _ T xs pl hO hU hc0 r48 r50 kr48 kr50) (cwV 1 hts (wg_app (wg_c kw_711 (wg_c kw_637 (wg_c kw_638 (wg_c kw_4 wg_n)))) kw_639) rfl rfl rfl (by decide +kernel) ⟨by decide, by decide⟩) (pp_VT (en_ok g) (ci := 4) (kd := (12, 0)) hK hO kr48 (nxg hc0 kr48 rfl) (fun _ h9 => ko1 h9) hP hD hS hA hE [] rfl rfl rfl) rfl rfl hl.1 rfl (lv_room (Nat.le_of_ble_eq_true rfl)) dDA_makePair_146 ⟨by omega, by omega⟩) (fun  pl H locs hu36 hP hD hS => ?_)
      obtain ⟨hq36, hO⟩ := hu36
      have hP : va_P g.1 vcl ([] ++ pl) _ := hP
      have hD : va_D _ ([] ++ pl) := hD
      refine W.widen (k := 0) (n := 0) (by omega) (by omega) ?_
      refine mi_iinc (k := 0) (x := i21) (d := 1) (y := i21 + 1) (lv' := [(5, .int (nI (i21 + 1))), (0, .ref h0), (1, .ref st), (3, .ref pk), (4, .ref sk)]) hx hb dDA_makePair_149 hl rfl (by decide) rfl (by decide) rfl (fun ls hl => ?_)
      refine lv_goto (tgt := 126) hx hb dDA_makePair_152 (by decide) ?_
      exact ih21 (i21 + 1) pl ls H locs (by omega) (lv_sub hl [0, 1, 2, 3, 4] rfl) hO hP hD hS
  exact lp21 5 0 pl ls _ _ (by omega) (lv_sub hl [0, 1, 2, 4, 5] rfl) hO hP hD hS
set_option maxHeartbeats 400000 in
set_option maxRecDepth 100000 in
theorem t_DA_makePair_2 (l : Launch) (g : Gd) (sz : Nat) (T : Ty) (xs : List Nat) (pl : va_W) (hO : okx g T xs pl) (hU : uni T) (hc0 : clo T xs 0) (hc3 : clo T xs 3) (hc4 : clo T xs 4) (h0 st ch pk sk n : Nat) (k_h0 : T h0 = some (15, 0)) (k_st : T st = some (45, 0)) (k_ch : T ch = some (1, n)) (k_pk : T pk = some (1, 2592)) (k_sk : T sk = some (1, 4896)) (h1 : 32 ≤ n) (h2 : n < 65536)  : Met l y_DA_makePair w_DA_makePair ({ frames := 6, cells := 0, slots := 0, locals := 176 } : Room) (va_Pc [.ref h0, .ref st, .ref ch, .ref pk, .ref sk] (pr (en g) g.1 vcl sz ([] ++ pl))) (va_Qv (fun (u : va_W) => (True) ∧ okx g T xs u) (po g.1 vcl (va_A ([] ++ pl) sz) (fun (u : va_W) => [] ++ u)) (va_A ([] ++ pl) sz)) 0 0 (va_A ([] ++ pl) sz) := by
  refine mc_entry (cc := c_DA_makePair) (maxL := 7) (ret := none) (by decide) rfl (Nat.le_of_ble_eq_true rfl) ?_
  intro p e s m args below meth c ls F hr hlk hnm hsz hP hD hE hA hl
  obtain ⟨hx, hb, hml, hown, hts⟩ := id F
  have hK := hE.1
  generalize va_A ([] ++ pl) sz = A at hD hE hA ⊢
  have hS : va_S A s.heap s.heap [] := va_S.rf
  have hl : lv_has ls 7 [(0, .ref h0), (1, .ref st), (2, .ref ch), (3, .ref pk), (4, .ref sk)] := hl
  refine lv_aload_n hx hb dDA_makePair_0 rfl (lv_at hl 0 rfl) ?_
  refine ty_get (ci := 6) (C := "LatticeKeys$Dsa") (TT := T_DA) (N := 17) (kd := (15, 0)) hx hb hts (wg_ft i_DA) hown hK hO k_h0 (nxg hc0 k_h0 rfl) hP (fun _ h9 => h9) rfl 0 (by decide) (hts _ (wg_t kw_165)) (fun _ h9 => h9) (cd := (3, 10, 2)) rfl dDA_makePair_1 (fun v21 hv21 => ?_)
  obtain ⟨r21, rfl, kr21⟩ := (show ∃ r : Nat, v21 = .ref r ∧ T r = some (10, 2) from hv21)
  refine lv_iconst (v := nI 3) hx hb dDA_makePair_4 (by decide) ?_
  obtain ⟨e21, pl, hP, hD, hk21, hO⟩ := open1 hP hD hO kr21 (nxg hc3 kr21 rfl)
  obtain ⟨ln21, rt21, ps21, x21, rfl, kl21, hr21, hr22, hr23⟩ := hk21
  have kl21 : T ln21 = some (19, 2) := kl21
  obtain ⟨e22, pl, hP, hD, hk22, hO⟩ := open1 hP hD hO kl21 (nmc (knd_ne kl21 kr21 (by decide)) (nxg hc3 kl21 rfl))
  obtain ⟨f21, rfl⟩ := hk22
  have hP : va_P g.1 vcl ([(r21, .inr (3, [.ref ln21, .int (nI rt21), .int x21, .int (nI ps21)])), (ln21, .inl (g.2.1 2, 25, .inr (.inl f21)))] ++ pl) _ := hP
  have hD : va_D _ ([(r21, .inr (3, [.ref ln21, .int (nI rt21), .int x21, .int (nI ps21)])), (ln21, .inl (g.2.1 2, 25, .inr (.inl f21)))] ++ pl) := hD
  refine mp_v (cx := [(r21, .inr (3, [.ref ln21, .int (nI rt21), .int x21, .int (nI ps21)])), (ln21, .inl (g.2.1 2, 25, .inr (.inl f21)))]) (wr := []) hP hD hS hA [0, 1] [] rfl rfl rfl (by decide) (va_runV (As := [.int (nI 3)]) (rest := []) F (t_SP_start_3 l g _ T (ln21 :: (r21 :: xs)) pl hO hU  r21 ln21 rt21 ps21 x21 f21) (cwV 1 hts (wg_app (wg_c kw_669 (wg_c kw_579 (wg_c kw_580 (wg_c kw_2 wg_n)))) kw_581) rfl rfl rfl (by decide +kernel) ⟨by decide, by decide⟩) (pp_V (en_ok g) (q0 := 0) hK hP hD hS hA hE [0, 1] rfl rfl rfl rfl) rfl rfl hl.1 rfl (lv_room (Nat.le_of_ble_eq_true rfl)) dDA_makePair_5 ⟨by omega, by omega⟩) (fun  u21 H locs hu21 hP hD hS => ?_)
  obtain ⟨u22, pl⟩ := u21
  obtain ⟨hq21, hO⟩ := hu21
  have hP : va_P g.1 vcl ([(r21, .inr (3, [.ref ln21, .int (nI 136), .int (nI 31), .int (nI 0)])), (ln21, .inl (g.2.1 2, 25, .inr (.inl u22)))] ++ pl) _ := hP
  have hD : va_D _ ([(r21, .inr (3, [.ref ln21, .int (nI 136), .int (nI 31), .int (nI 0)])), (ln21, .inl (g.2.1 2, 25, .inr (.inl u22)))] ++ pl) := hD
  refine W.widen (k := 0) (n := 0) (by omega) (by omega) ?_
  refine lv_aload_n hx hb dDA_makePair_8 rfl (lv_at hl 0 rfl) ?_
  refine ty_get (ci := 6) (C := "LatticeKeys$Dsa") (TT := T_DA) (N := 17) (kd := (15, 0)) hx hb hts (wg_ft i_DA) hown hK hO k_h0 (nxg (clo_cons (clo_cons hc0 kr21 (by decide)) kl21 (by decide)) k_h0 rfl) hP (fun _ h9 => h9) rfl 0 (by decide) (hts _ (wg_t kw_165)) (fun _ h9 => h9) (cd := (3, 10, 2)) rfl dDA_makePair_9 (fun v22 hv22 => ?_)
  obtain ⟨r22, rfl, kr22⟩ := (show ∃ r : Nat, v22 = .ref r ∧ T r = some (10, 2) from hv22)
  obtain rfl : r21 = r22 := hU _ _ _ (by decide) kr21 kr22
  refine lv_aload_n hx hb dDA_makePair_12 rfl (lv_at hl 2 rfl) ?_
  refine lv_iconst (v := nI 0) hx hb dDA_makePair_13 (by decide) ?_
  refine lv_bipush (v := nI 32) hx hb dDA_makePair_14 (by decide) ?_
  refine mp_v (cx := [(r21, .inr (3, [.ref ln21, .int (nI 136), .int (nI 31), .int (nI 0)])), (ln21, .inl (g.2.1 2, 25, .inr (.inl u22)))]) (wr := []) hP hD hS hA [0, 1] [] rfl rfl rfl (by decide) (va_runV (As := [.ref ch, .int (nI 0), .int (nI 32)]) (rest := []) F (t_SP_absorb l g _ T (ln21 :: (r21 :: xs)) pl hO hU (clo_cons (clo_cons hc0 kr21 (by decide)) kl21 (by decide)) ch n 0 32 r21 ln21 136 0 (nI 31) u22 k_ch (by omega) (by omega) (by omega) (by omega)) (cwV 3 hts (wg_app (wg_c kw_670 (wg_c kw_586 (wg_c kw_587 (wg_c kw_2 wg_n)))) kw_588) rfl rfl rfl (by decide +kernel) ⟨by decide, by decide⟩) (pp_V (en_ok g) (q0 := 0) hK hP hD hS hA hE [0, 1] rfl rfl rfl rfl) rfl rfl hl.1 rfl (lv_room (Nat.le_of_ble_eq_true rfl)) dDA_makePair_16 ⟨by omega, by omega⟩) (fun  u23 H locs hu22 hP hD hS => ?_)
  obtain ⟨u24, pl⟩ := u23
  obtain ⟨hq22, hO⟩ := hu22
  obtain ⟨k21, f22⟩ := u24
  have hP : va_P g.1 vcl ([(r21, .inr (3, [.ref ln21, .int (nI 136), .int (nI 31), .int (nI k21)])), (ln21, .inl (g.2.1 2, 25, .inr (.inl f22)))] ++ pl) _ := hP
  have hD : va_D _ ([(r21, .inr (3, [.ref ln21, .int (nI 136), .int (nI 31), .int (nI k21)])), (ln21, .inl (g.2.1 2, 25, .inr (.inl f22)))] ++ pl) := hD
  have hq22 : k21 < 136 := hq22
  refine W.widen (k := 0) (n := 0) (by omega) (by omega) ?_
  refine lv_aload_n hx hb dDA_makePair_19 rfl (lv_at hl 0 rfl) ?_
  refine ty_get (ci := 6) (C := "LatticeKeys$Dsa") (TT := T_DA) (N := 17) (kd := (15, 0)) hx hb hts (wg_ft i_DA) hown hK hO k_h0 (nxg (clo_cons (clo_cons hc0 kr21 (by decide)) kl21 (by decide)) k_h0 rfl) hP (fun _ h9 => h9) rfl 0 (by decide) (hts _ (wg_t kw_165)) (fun _ h9 => h9) (cd := (3, 10, 2)) rfl dDA_makePair_20 (fun v23 hv23 => ?_)
  obtain ⟨r23, rfl, kr23⟩ := (show ∃ r : Nat, v23 = .ref r ∧ T r = some (10, 2) from hv23)
  obtain rfl : r21 = r23 := hU _ _ _ (by decide) kr21 kr23
  refine lv_aload_n hx hb dDA_makePair_23 rfl (lv_at hl 1 rfl) ?_
  refine ty_get (ci := 2) (C := "LatticeKeys$DsaSet") (TT := T_DS) (N := 17) (kd := (45, 0)) hx hb hts (wg_ft i_DS) hown hK hO k_st (nxg (clo_cons (clo_cons hc0 kr21 (by decide)) kl21 (by decide)) k_st rfl) hP (fun _ h9 => h9) rfl 0 (by decide) (hts _ (wg_t kw_302)) (fun _ h9 => h9) (cd := (1, 0, 8)) rfl dDA_makePair_24 (fun v24 hv24 => ?_)
  obtain rfl := (show v24 = .int (nI 8) from hv24)
  refine mp_v (cx := [(r21, .inr (3, [.ref ln21, .int (nI 136), .int (nI 31), .int (nI k21)])), (ln21, .inl (g.2.1 2, 25, .inr (.inl f22)))]) (wr := []) hP hD hS hA [0, 1] [] rfl rfl rfl (by decide) (va_runV (As := [.int (nI 8)]) (rest := []) F (t_SP_absorbByte l g _ T (ln21 :: (r21 :: xs)) pl hO hU  (nI 8) r21 ln21 136 k21 (nI 31) f22 (by omega) (by omega)) (cwV 1 hts (wg_app (wg_c kw_671 (wg_c kw_590 (wg_c kw_591 (wg_c kw_2 wg_n)))) kw_592) rfl rfl rfl (by decide +kernel) ⟨by decide, by decide⟩) (pp_V (en_ok g) (q0 := 0) hK hP hD hS hA hE [0, 1] rfl rfl rfl rfl) rfl rfl hl.1 rfl (lv_room (Nat.le_of_ble_eq_true rfl)) dDA_makePair_27 ⟨by omega, by omega⟩) (fun  u25 H locs hu23 hP hD hS => ?_)
  obtain ⟨u26, pl⟩ := u25
  obtain ⟨hq23, hO⟩ := hu23
  obtain ⟨k22, f23⟩ := u26
  have hP : va_P g.1 vcl ([(r21, .inr (3, [.ref ln21, .int (nI 136), .int (nI 31), .int (nI k22)])), (ln21, .inl (g.2.1 2, 25, .inr (.inl f23)))] ++ pl) _ := hP
  have hD : va_D _ ([(r21, .inr (3, [.ref ln21, .int (nI 136), .int (nI 31), .int (nI k22)])), (ln21, .inl (g.2.1 2, 25, .inr (.inl f23)))] ++ pl) := hD
  have hq23 : k22 < 136 := hq23
  refine W.widen (k := 0) (n := 0) (by omega) (by omega) ?_
  refine lv_aload_n hx hb dDA_makePair_30 rfl (lv_at hl 0 rfl) ?_
  refine ty_get (ci := 6) (C := "LatticeKeys$Dsa") (TT := T_DA) (N := 17) (kd := (15, 0)) hx hb hts (wg_ft i_DA) hown hK hO k_h0 (nxg (clo_cons (clo_cons hc0 kr21 (by decide)) kl21 (by decide)) k_h0 rfl) hP (fun _ h9 => h9) rfl 0 (by decide) (hts _ (wg_t kw_165)) (fun _ h9 => h9) (cd := (3, 10, 2)) rfl dDA_makePair_31 (fun v25 hv25 => ?_)
  obtain ⟨r24, rfl, kr24⟩ := (show ∃ r : Nat, v25 = .ref r ∧ T r = some (10, 2) from hv25)
  obtain rfl : r21 = r24 := hU _ _ _ (by decide) kr21 kr24
  refine lv_aload_n hx hb dDA_makePair_34 rfl (lv_at hl 1 rfl) ?_
  refine ty_get (ci := 2) (C := "LatticeKeys$DsaSet") (TT := T_DS) (N := 17) (kd := (45, 0)) hx hb hts (wg_ft i_DS) hown hK hO k_st (nxg (clo_cons (clo_cons hc0 kr21 (by decide)) kl21 (by decide)) k_st rfl) hP (fun _ h9 => h9) rfl 1 (by decide) (hts _ (wg_t kw_305)) (fun _ h9 => h9) (cd := (1, 0, 7)) rfl dDA_makePair_35 (fun v26 hv26 => ?_)
  obtain rfl := (show v26 = .int (nI 7) from hv26)
  refine mp_v (cx := [(r21, .inr (3, [.ref ln21, .int (nI 136), .int (nI 31), .int (nI k22)])), (ln21, .inl (g.2.1 2, 25, .inr (.inl f23)))]) (wr := []) hP hD hS hA [0, 1] [] rfl rfl rfl (by decide) (va_runV (As := [.int (nI 7)]) (rest := []) F (t_SP_absorbByte l g _ T (ln21 :: (r21 :: xs)) pl hO hU  (nI 7) r21 ln21 136 k22 (nI 31) f23 (by omega) (by omega)) (cwV 1 hts (wg_app (wg_c kw_671 (wg_c kw_590 (wg_c kw_591 (wg_c kw_2 wg_n)))) kw_592) rfl rfl rfl (by decide +kernel) ⟨by decide, by decide⟩) (pp_V (en_ok g) (q0 := 0) hK hP hD hS hA hE [0, 1] rfl rfl rfl rfl) rfl rfl hl.1 rfl (lv_room (Nat.le_of_ble_eq_true rfl)) dDA_makePair_38 ⟨by omega, by omega⟩) (fun  u27 H locs hu24 hP hD hS => ?_)
  obtain ⟨u28, pl⟩ := u27
  obtain ⟨hq24, hO⟩ := hu24
  obtain ⟨k23, f24⟩ := u28
  have hP : va_P g.1 vcl ([(r21, .inr (3, [.ref ln21, .int (nI 136), .int (nI 31), .int (nI k23)])), (ln21, .inl (g.2.1 2, 25, .inr (.inl f24)))] ++ pl) _ := hP
  have hD : va_D _ ([(r21, .inr (3, [.ref ln21, .int (nI 136), .int (nI 31), .int (nI k23)])), (ln21, .inl (g.2.1 2, 25, .inr (.inl f24)))] ++ pl) := hD
  have hq24 : k23 < 136 := hq24
  refine W.widen (k := 0) (n := 0) (by omega) (by omega) ?_
  refine lv_aload_n hx hb dDA_makePair_41 rfl (lv_at hl 0 rfl) ?_
  refine ty_get (ci := 6) (C := "LatticeKeys$Dsa") (TT := T_DA) (N := 17) (kd := (15, 0)) hx hb hts (wg_ft i_DA) hown hK hO k_h0 (nxg (clo_cons (clo_cons hc0 kr21 (by decide)) kl21 (by decide)) k_h0 rfl) hP (fun _ h9 => h9) rfl 0 (by decide) (hts _ (wg_t kw_165)) (fun _ h9 => h9) (cd := (3, 10, 2)) rfl dDA_makePair_42 (fun v27 hv27 => ?_)
  obtain ⟨r25, rfl, kr25⟩ := (show ∃ r : Nat, v27 = .ref r ∧ T r = some (10, 2) from hv27)
  obtain rfl : r21 = r25 := hU _ _ _ (by decide) kr21 kr25
  refine mp_v (cx := [(r21, .inr (3, [.ref ln21, .int (nI 136), .int (nI 31), .int (nI k23)])), (ln21, .inl (g.2.1 2, 25, .inr (.inl f24)))]) (wr := []) hP hD hS hA [0, 1] [] rfl rfl rfl (by decide) (va_runV (As := []) (rest := []) F (t_SP_finish l g _ T (ln21 :: (r21 :: xs)) pl hO hU  r21 ln21 136 k23 (nI 31) f24 (by omega) (by omega)) (cwV 0 hts (wg_app (wg_c kw_672 (wg_c kw_611 (wg_c kw_612 (wg_c kw_2 wg_n)))) kw_613) rfl rfl rfl (by decide +kernel) ⟨by decide, by decide⟩) (pp_V (en_ok g) (q0 := 0) hK hP hD hS hA hE [0, 1] rfl rfl rfl rfl) rfl rfl hl.1 rfl (lv_room (Nat.le_of_ble_eq_true rfl)) dDA_makePair_45 ⟨by omega, by omega⟩) (fun  u29 H locs hu25 hP hD hS => ?_)
  obtain ⟨u30, pl⟩ := u29
  obtain ⟨hq25, hO⟩ := hu25
  have hP : va_P g.1 vcl ([(r21, .inr (3, [.ref ln21, .int (nI 136), .int (nI 31), .int (nI 136)])), (ln21, .inl (g.2.1 2, 25, .inr (.inl u30)))] ++ pl) _ := hP
  have hD : va_D _ ([(r21, .inr (3, [.ref ln21, .int (nI 136), .int (nI 31), .int (nI 136)])), (ln21, .inl (g.2.1 2, 25, .inr (.inl u30)))] ++ pl) := hD
  refine W.widen (k := 0) (n := 0) (by omega) (by omega) ?_
  refine lv_aload_n hx hb dDA_makePair_48 rfl (lv_at hl 0 rfl) ?_
  refine ty_get (ci := 6) (C := "LatticeKeys$Dsa") (TT := T_DA) (N := 17) (kd := (15, 0)) hx hb hts (wg_ft i_DA) hown hK hO k_h0 (nxg (clo_cons (clo_cons hc0 kr21 (by decide)) kl21 (by decide)) k_h0 rfl) hP (fun _ h9 => h9) rfl 0 (by decide) (hts _ (wg_t kw_165)) (fun _ h9 => h9) (cd := (3, 10, 2)) rfl dDA_makePair_49 (fun v28 hv28 => ?_)
  obtain ⟨r26, rfl, kr26⟩ := (show ∃ r : Nat, v28 = .ref r ∧ T r = some (10, 2) from hv28)
  obtain rfl : r21 = r26 := hU _ _ _ (by decide) kr21 kr26
  refine lv_aload_n hx hb dDA_makePair_52 rfl (lv_at hl 0 rfl) ?_
  refine ty_get (ci := 6) (C := "LatticeKeys$Dsa") (TT := T_DA) (N := 17) (kd := (15, 0)) hx hb hts (wg_ft i_DA) hown hK hO k_h0 (nxg (clo_cons (clo_cons hc0 kr21 (by decide)) kl21 (by decide)) k_h0 rfl) hP (fun _ h9 => h9) rfl 11 (by decide) (hts _ (wg_t kw_176)) (fun _ h9 => h9) (cd := (3, 1, 128)) rfl dDA_makePair_53 (fun v29 hv29 => ?_)
  obtain ⟨r27, rfl, kr27⟩ := (show ∃ r : Nat, v29 = .ref r ∧ T r = some (1, 128) from hv29)
  refine lv_iconst (v := nI 0) hx hb dDA_makePair_56 (by decide) ?_
  refine lv_sipush (v := nI 128) hx hb dDA_makePair_57 (by decide) ?_
  refine mp_v (cx := [(r21, .inr (3, [.ref ln21, .int (nI 136), .int (nI 31), .int (nI 136)])), (ln21, .inl (g.2.1 2, 25, .inr (.inl u30)))]) (wr := []) hP hD hS hA [0, 1] [] rfl rfl rfl (by decide) (va_runV (As := [.ref r27, .int (nI 0), .int (nI 128)]) (rest := []) F (t_SP_squeeze l g _ T (ln21 :: (r21 :: xs)) pl hO hU (clo_cons (clo_cons hc0 kr21 (by decide)) kl21 (by decide)) r27 128 0 128 r21 ln21 136 136 (nI 31) u30 kr27 (by omega) (by omega) (by omega) (by omega)) (cwV 3 hts (wg_app (wg_c kw_673 (wg_c kw_615 (wg_c kw_616 (wg_c kw_2 wg_n)))) kw_617) rfl rfl rfl (by decide +kernel) ⟨by decide, by decide⟩) (pp_V (en_ok g) (q0 := 0) hK hP hD hS hA hE [0, 1] rfl rfl rfl rfl) rfl rfl hl.1 rfl (lv_room (Nat.le_of_ble_eq_true rfl)) dDA_makePair_60 ⟨by omega, by omega⟩) (fun  u31 H locs hu26 hP hD hS => ?_)
  obtain ⟨u32, pl⟩ := u31
  obtain ⟨hq26, hO⟩ := hu26
  obtain ⟨k24, f25⟩ := u32
  have hP : va_P g.1 vcl ([(r21, .inr (3, [.ref ln21, .int (nI 136), .int (nI 31), .int (nI k24)])), (ln21, .inl (g.2.1 2, 25, .inr (.inl f25)))] ++ pl) _ := hP
  have hD : va_D _ ([(r21, .inr (3, [.ref ln21, .int (nI 136), .int (nI 31), .int (nI k24)])), (ln21, .inl (g.2.1 2, 25, .inr (.inl f25)))] ++ pl) := hD
  have hq26 : k24 ≤ 136 := hq26
  refine W.widen (k := 0) (n := 0) (by omega) (by omega) ?_
  refine lv_aload_n hx hb dDA_makePair_63 rfl (lv_at hl 0 rfl) ?_
  refine ty_get (ci := 6) (C := "LatticeKeys$Dsa") (TT := T_DA) (N := 17) (kd := (15, 0)) hx hb hts (wg_ft i_DA) hown hK hO k_h0 (nxg (clo_cons (clo_cons hc0 kr21 (by decide)) kl21 (by decide)) k_h0 rfl) hP (fun _ h9 => h9) rfl 11 (by decide) (hts _ (wg_t kw_176)) (fun _ h9 => h9) (cd := (3, 1, 128)) rfl dDA_makePair_64 (fun v30 hv30 => ?_)
  obtain ⟨r28, rfl, kr28⟩ := (show ∃ r : Nat, v30 = .ref r ∧ T r = some (1, 128) from hv30)
  refine lv_iconst (v := nI 0) hx hb dDA_makePair_67 (by decide) ?_
  refine lv_aload_n hx hb dDA_makePair_68 rfl (lv_at hl 3 rfl) ?_
  refine lv_iconst (v := nI 0) hx hb dDA_makePair_69 (by decide) ?_
  refine lv_bipush (v := nI 32) hx hb dDA_makePair_70 (by decide) ?_
  refine ty_copyb11 hx hb (hml.trans hl.1.symm) hown (hts _ (wg_t kw_674)) (hts _ (wg_t kw_526)) (hts _ (wg_t kw_525)) (hts _ (wg_t kw_19)) hK hO kr28 (nxg (clo_cons (clo_cons hc0 kr21 (by decide)) kl21 (by decide)) kr28 rfl) k_pk (nxg (clo_cons (clo_cons hc0 kr21 (by decide)) kl21 (by decide)) k_pk rfl) hP hD hS (sp := 0) (dp := 0) (n := 32) (by omega) (by omega) (by omega) (by decide) (Nat.le_of_ble_eq_true rfl) dDA_makePair_72 (fun pl H locs hO hP hD hS => ?_)
  refine lv_aload_n hx hb dDA_makePair_75 rfl (lv_at hl 0 rfl) ?_
  refine ty_get (ci := 6) (C := "LatticeKeys$Dsa") (TT := T_DA) (N := 17) (kd := (15, 0)) hx hb hts (wg_ft i_DA) hown hK hO k_h0 (nxg (clo_cons (clo_cons hc0 kr21 (by decide)) kl21 (by decide)) k_h0 rfl) hP (fun _ h9 => h9) rfl 11 (by decide) (hts _ (wg_t kw_176)) (fun _ h9 => h9) (cd := (3, 1, 128)) rfl dDA_makePair_76 (fun v31 hv31 => ?_)
  obtain ⟨r29, rfl, kr29⟩ := (show ∃ r : Nat, v31 = .ref r ∧ T r = some (1, 128) from hv31)
  refine lv_iconst (v := nI 0) hx hb dDA_makePair_79 (by decide) ?_
  refine lv_aload hx hb dDA_makePair_80 (lv_at hl 4 rfl) ?_
  refine lv_iconst (v := nI 0) hx hb dDA_makePair_82 (by decide) ?_
  refine lv_bipush (v := nI 32) hx hb dDA_makePair_83 (by decide) ?_
  refine ty_copyb11 hx hb (hml.trans hl.1.symm) hown (hts _ (wg_t kw_674)) (hts _ (wg_t kw_526)) (hts _ (wg_t kw_525)) (hts _ (wg_t kw_19)) hK hO kr29 (nxg (clo_cons (clo_cons hc0 kr21 (by decide)) kl21 (by decide)) kr29 rfl) k_sk (nxg (clo_cons (clo_cons hc0 kr21 (by decide)) kl21 (by decide)) k_sk rfl) hP hD hS (sp := 0) (dp := 0) (n := 32) (by omega) (by omega) (by omega) (by decide) (Nat.le_of_ble_eq_true rfl) dDA_makePair_85 (fun pl H locs hO hP hD hS => ?_)
  refine lv_aload_n hx hb dDA_makePair_88 rfl (lv_at hl 0 rfl) ?_
  refine ty_get (ci := 6) (C := "LatticeKeys$Dsa") (TT := T_DA) (N := 17) (kd := (15, 0)) hx hb hts (wg_ft i_DA) hown hK hO k_h0 (nxg (clo_cons (clo_cons hc0 kr21 (by decide)) kl21 (by decide)) k_h0 rfl) hP (fun _ h9 => h9) rfl 11 (by decide) (hts _ (wg_t kw_176)) (fun _ h9 => h9) (cd := (3, 1, 128)) rfl dDA_makePair_89 (fun v32 hv32 => ?_)
  obtain ⟨r30, rfl, kr30⟩ := (show ∃ r : Nat, v32 = .ref r ∧ T r = some (1, 128) from hv32)
  refine lv_bipush (v := nI 96) hx hb dDA_makePair_92 (by decide) ?_
  refine lv_aload hx hb dDA_makePair_94 (lv_at hl 4 rfl) ?_
  refine lv_bipush (v := nI 32) hx hb dDA_makePair_96 (by decide) ?_
  refine lv_bipush (v := nI 32) hx hb dDA_makePair_98 (by decide) ?_
  refine ty_copyb11 hx hb (hml.trans hl.1.symm) hown (hts _ (wg_t kw_674)) (hts _ (wg_t kw_526)) (hts _ (wg_t kw_525)) (hts _ (wg_t kw_19)) hK hO kr30 (nxg (clo_cons (clo_cons hc0 kr21 (by decide)) kl21 (by decide)) kr30 rfl) k_sk (nxg (clo_cons (clo_cons hc0 kr21 (by decide)) kl21 (by decide)) k_sk rfl) hP hD hS (sp := 96) (dp := 32) (n := 32) (by omega) (by omega) (by omega) (by decide) (Nat.le_of_ble_eq_true rfl) dDA_makePair_100 (fun pl H locs hO hP hD hS => ?_)
  refine lv_aload_n hx hb dDA_makePair_103 rfl (lv_at hl 0 rfl) ?_
  refine lv_aload_n hx hb dDA_makePair_104 rfl (lv_at hl 1 rfl) ?_
  refine lv_aload hx hb dDA_makePair_105 (lv_at hl 4 rfl) ?_
  refine mp_v (cx := []) (wr := [(r21, .inr (3, [.ref ln21, .int (nI 136), .int (nI 31), .int (nI k24)])), (ln21, .inl (g.2.1 2, 25, .inr (.inl f25)))]) hP hD hS hA [] [0, 1] rfl rfl rfl (by decide) (va_runV (As := [.ref st, .ref sk]) (rest := []) F (t_DA_writeSmallVectors_2 l g _ T (ln21 :: (r21 :: xs)) pl hO hU (clo_cons (clo_cons hc0 kr21 (by decide)) kl21 (by decide)) (clo_cons (clo_cons hc4 kr21 (by decide)) kl21 (by decide)) h0 st sk k_h0 k_st k_sk) (cwV 2 hts (wg_app (wg_c kw_675 (wg_c kw_677 (wg_c ks_11 (wg_c kw_5 wg_n)))) kw_678) rfl rfl rfl (by decide +kernel) ⟨by decide, by decide⟩) (pp_VT (en_ok g) (ci := 6) (kd := (15, 0)) hK hO k_h0 (nxg (clo_cons (clo_cons hc0 kr21 (by decide)) kl21 (by decide)) k_h0 rfl) (fun _ h9 => ko1 h9) hP hD hS hA hE [] rfl rfl rfl) rfl rfl hl.1 rfl (lv_room (Nat.le_of_ble_eq_true rfl)) dDA_makePair_107 ⟨by omega, by omega⟩) (fun  pl H locs hu27 hP hD hS => ?_)
  obtain ⟨hq27, hO⟩ := hu27
  have hP : va_P g.1 vcl ([(r21, .inr (3, [.ref ln21, .int (nI 136), .int (nI 31), .int (nI k24)])), (ln21, .inl (g.2.1 2, 25, .inr (.inl f25)))] ++ pl) _ := hP
  have hD : va_D _ ([(r21, .inr (3, [.ref ln21, .int (nI 136), .int (nI 31), .int (nI k24)])), (ln21, .inl (g.2.1 2, 25, .inr (.inl f25)))] ++ pl) := hD
  refine W.widen (k := 0) (n := 0) (by omega) (by omega) ?_
  refine lv_aload_n hx hb dDA_makePair_110 rfl (lv_at hl 0 rfl) ?_
  refine ty_get (ci := 6) (C := "LatticeKeys$Dsa") (TT := T_DA) (N := 17) (kd := (15, 0)) hx hb hts (wg_ft i_DA) hown hK hO k_h0 (nxg (clo_cons (clo_cons hc0 kr21 (by decide)) kl21 (by decide)) k_h0 rfl) hP (fun _ h9 => h9) rfl 2 (by decide) (hts _ (wg_t kw_167)) (fun _ h9 => h9) (cd := (3, 14, 0)) rfl dDA_makePair_111 (fun v33 hv33 => ?_)
  obtain ⟨r31, rfl, kr31⟩ := (show ∃ r : Nat, v33 = .ref r ∧ T r = some (14, 0) from hv33)
  refine lv_aload_n hx hb dDA_makePair_114 rfl (lv_at hl 1 rfl) ?_
  refine lv_aload_n hx hb dDA_makePair_115 rfl (lv_at hl 3 rfl) ?_
  refine lv_aload_n hx hb dDA_makePair_116 rfl (lv_at hl 0 rfl) ?_
  refine ty_get (ci := 6) (C := "LatticeKeys$Dsa") (TT := T_DA) (N := 17) (kd := (15, 0)) hx hb hts (wg_ft i_DA) hown hK hO k_h0 (nxg (clo_cons (clo_cons hc0 kr21 (by decide)) kl21 (by decide)) k_h0 rfl) hP (fun _ h9 => h9) rfl 3 (by decide) (hts _ (wg_t kw_168)) (fun _ h9 => h9) (cd := (3, 3, 56)) rfl dDA_makePair_117 (fun v34 hv34 => ?_)
  obtain ⟨r32, rfl, kr32⟩ := (show ∃ r : Nat, v34 = .ref r ∧ T r = some (3, 56) from hv34)
  refine mp_v (cx := []) (wr := [(r21, .inr (3, [.ref ln21, .int (nI 136), .int (nI 31), .int (nI k24)])), (ln21, .inl (g.2.1 2, 25, .inr (.inl f25)))]) hP hD hS hA [] [0, 1] rfl rfl rfl (by decide) (va_runV (As := [.ref st, .ref pk, .ref r32]) (rest := []) F (t_SA_expandMatrix_2 l g _ T (ln21 :: (r21 :: xs)) pl hO hU (clo_cons (clo_cons hc0 kr21 (by decide)) kl21 (by decide)) (clo_cons (clo_cons hc4 kr21 (by decide)) kl21 (by decide)) r31 st pk r32 2592 kr31 k_st k_pk kr32 (by omega) (by omega)) (cwV 3 hts (wg_app (wg_c kw_703 (wg_c kw_704 (wg_c kw_705 (wg_c kw_6 wg_n)))) kw_706) rfl rfl rfl (by decide +kernel) ⟨by decide, by decide⟩) (pp_VT (en_ok g) (ci := 7) (kd := (14, 0)) hK hO kr31 (nxg (clo_cons (clo_cons hc0 kr21 (by decide)) kl21 (by decide)) kr31 rfl) (fun _ h9 => ko1 h9) hP hD hS hA hE [] rfl rfl rfl) rfl rfl hl.1 rfl (lv_room (Nat.le_of_ble_eq_true rfl)) dDA_makePair_120 ⟨by omega, by omega⟩) (fun  pl H locs hu28 hP hD hS => ?_)
  obtain ⟨hq28, hO⟩ := hu28
  have hP : va_P g.1 vcl ([(r21, .inr (3, [.ref ln21, .int (nI 136), .int (nI 31), .int (nI k24)])), (ln21, .inl (g.2.1 2, 25, .inr (.inl f25)))] ++ pl) _ := hP
  have hD : va_D _ ([(r21, .inr (3, [.ref ln21, .int (nI 136), .int (nI 31), .int (nI k24)])), (ln21, .inl (g.2.1 2, 25, .inr (.inl f25)))] ++ pl) := hD
  refine W.widen (k := 0) (n := 0) (by omega) (by omega) ?_
  refine lv_iconst (v := nI 0) hx hb dDA_makePair_123 (by decide) ?_
  refine lv_istore (lv' := [(5, .int (nI 0)), (0, .ref h0), (1, .ref st), (2, .ref ch), (3, .ref pk), (4, .ref sk)]) hx hb dDA_makePair_124 hl (by decide) rfl (fun ls hl => ?_)
  have hO := close1 (e := .inl (g.2.1 2, 25, .inr (.inl f25))) hO kl21 ⟨_, rfl⟩
  have hO := close1 (e := .inr (3, [.ref ln21, .int (nI 136), .int (nI 31), .int (nI k24)])) hO kr21 ⟨_, _, _, _, rfl, kl21, by omega, by omega, by omega⟩
  have hO : okx g T xs ((r21, .inr (3, [.ref ln21, .int (nI 136), .int (nI 31), .int (nI k24)])) :: (ln21, .inl (g.2.1 2, 25, .inr (.inl f25))) :: pl) := hO
  have hP : va_P g.1 vcl ([] ++ ((r21, .inr (3, [.ref ln21, .int (nI 136), .int (nI 31), .int (nI k24)])) :: (ln21, .inl (g.2.1 2, 25, .inr (.inl f25))) :: pl)) _ := hP
  have hD : va_D _ ([] ++ ((r21, .inr (3, [.ref ln21, .int (nI 136), .int (nI 31), .int (nI k24)])) :: (ln21, .inl (g.2.1 2, 25, .inr (.inl f25))) :: pl)) := hD
  generalize ((r21, .inr (3, [.ref ln21, .int (nI 136), .int (nI 31), .int (nI k24)])) :: (ln21, .inl (g.2.1 2, 25, .inr (.inl f25))) :: pl) = pl at hO hP hD
  have lp21 : ∀ (n21 : Nat) (i21 : Nat) (pl : va_W) (ls : Array Slot) (H : Heap) (locs : List Loc), n21 + i21 = 7 → lv_has ls 7 [(5, .int (nI i21)), (0, .ref h0), (1, .ref st), (3, .ref pk), (4, .ref sk)] → okx g T xs pl → va_P g.1 vcl ([] ++ pl) H → va_D A ([] ++ pl) → va_S A s.heap H locs → W p l e ({ frames := 6, cells := 0, slots := 0, locals := 176 } : Room) s m args below meth c H locs 0 0 (MQ below (va_Qv (fun (u : va_W) => (True) ∧ okx g T xs u) (po g.1 vcl A (fun (u : va_W) => [] ++ u)) A) args s 0 0 A) (F0 m 126 ls []) := by
    intro n21
    induction n21 with
    | zero =>
      intro i21 pl ls H locs hm21  hl hO hP hD hS
      refine lv_iload hx hb dDA_makePair_126 (lv_at hl 0 rfl) ?_
      refine lv_aload_n hx hb dDA_makePair_128 rfl (lv_at hl 2 rfl) ?_
      refine ty_get (ci := 2) (C := "LatticeKeys$DsaSet") (TT := T_DS) (N := 17) (kd := (45, 0)) hx hb hts (wg_ft i_DS) hown hK hO k_st (nxg hc0 k_st rfl) hP (fun _ h9 => h9) rfl 1 (by decide) (hts _ (wg_t kw_305)) (fun _ h9 => h9) (cd := (1, 0, 7)) rfl dDA_makePair_129 (fun v35 hv35 => ?_)
      obtain rfl := (show v35 = .int (nI 7) from hv35)
      refine mi_ge (tgt := 155) hx hb dDA_makePair_132 (by decide) (by omega) (by omega) (fun h21 => ?_) (fun h21 => absurd h21 (by omega))
      refine lv_sipush (v := nI 128) hx hb dDA_makePair_155 (by decide) ?_
      refine lv_bipush (v := nI 32) hx hb dDA_makePair_158 (by decide) ?_
      refine lv_aload_n hx hb dDA_makePair_160 rfl (lv_at hl 2 rfl) ?_
      refine ty_get (ci := 2) (C := "LatticeKeys$DsaSet") (TT := T_DS) (N := 17) (kd := (45, 0)) hx hb hts (wg_ft i_DS) hown hK hO k_st (nxg hc0 k_st rfl) hP (fun _ h9 => h9) rfl 3 (by decide) (hts _ (wg_t kw_310)) (fun _ h9 => h9) (cd := (1, 0, 3)) rfl dDA_makePair_161 (fun v36 hv36 => ?_)
      obtain rfl := (show v36 = .int (nI 3) from hv36)
      refine mi_imul hx hb dDA_makePair_164 ?_
      refine mi_as (show nI (32 * 3) = nI 96 from rfl) ?_
      refine lv_aload_n hx hb dDA_makePair_165 rfl (lv_at hl 2 rfl) ?_
      refine ty_get (ci := 2) (C := "LatticeKeys$DsaSet") (TT := T_DS) (N := 17) (kd := (45, 0)) hx hb hts (wg_ft i_DS) hown hK hO k_st (nxg hc0 k_st rfl) hP (fun _ h9 => h9) rfl 0 (by decide) (hts _ (wg_t kw_302)) (fun _ h9 => h9) (cd := (1, 0, 8)) rfl dDA_makePair_166 (fun v37 hv37 => ?_)
      obtain rfl := (show v37 = .int (nI 8) from hv37)
      refine lv_aload_n hx hb dDA_makePair_169 rfl (lv_at hl 2 rfl) ?_
      refine ty_get (ci := 2) (C := "LatticeKeys$DsaSet") (TT := T_DS) (N := 17) (kd := (45, 0)) hx hb hts (wg_ft i_DS) hown hK hO k_st (nxg hc0 k_st rfl) hP (fun _ h9 => h9) rfl 1 (by decide) (hts _ (wg_t kw_305)) (fun _ h9 => h9) (cd := (1, 0, 7)) rfl dDA_makePair_170 (fun v38 hv38 => ?_)
      obtain rfl := (show v38 = .int (nI 7) from hv38)
      refine mi_iadd hx hb dDA_makePair_173 ?_
      refine mi_as (show nI (8 + 7) = nI 15 from rfl) ?_
      refine mi_imul hx hb dDA_makePair_174 ?_
      refine mi_as (show nI (96 * 15) = nI 1440 from rfl) ?_
      refine mi_iadd hx hb dDA_makePair_175 ?_
      refine mi_as (show nI (128 + 1440) = nI 1568 from rfl) ?_
      refine lv_istore (lv' := [(5, .int (nI 1568)), (0, .ref h0), (1, .ref st), (3, .ref pk), (4, .ref sk)]) hx hb dDA_makePair_176 hl (by decide) rfl (fun ls hl => ?_)
      refine lv_iconst (v := nI 0) hx hb dDA_makePair_178 (by decide) ?_
      refine lv_istore (lv' := [(6, .int (nI 0)), (5, .int (nI 1568)), (0, .ref h0), (1, .ref st), (3, .ref pk), (4, .ref sk)]) hx hb dDA_makePair_179 hl (by decide) rfl (fun ls hl => ?_)
      have lp22 : ∀ (n22 : Nat) (i22 : Nat) (pl : va_W) (ls : Array Slot) (H : Heap) (locs : List Loc), n22 + i22 = 8 → lv_has ls 7 [(6, .int (nI i22)), (5, .int (nI 1568)), (0, .ref h0), (1, .ref st), (3, .ref pk), (4, .ref sk)] → okx g T xs pl → va_P g.1 vcl ([] ++ pl) H → va_D A ([] ++ pl) → va_S A s.heap H locs → W p l e ({ frames := 6, cells := 0, slots := 0, locals := 176 } : Room) s m args below meth c H locs 0 0 (MQ below (va_Qv (fun (u : va_W) => (True) ∧ okx g T xs u) (po g.1 vcl A (fun (u : va_W) => [] ++ u)) A) args s 0 0 A) (F0 m 181 ls []) := by
        intro n22
        induction n22 with
        | zero =>
          intro i22 pl ls H locs hm22  hl hO hP hD hS
          refine lv_iload hx hb dDA_makePair_181 (lv_at hl 0 rfl) ?_
          refine lv_aload_n hx hb dDA_makePair_183 rfl (lv_at hl 3 rfl) ?_
          refine ty_get (ci := 2) (C := "LatticeKeys$DsaSet") (TT := T_DS) (N := 17) (kd := (45, 0)) hx hb hts (wg_ft i_DS) hown hK hO k_st (nxg hc0 k_st rfl) hP (fun _ h9 => h9) rfl 0 (by decide) (hts _ (wg_t kw_302)) (fun _ h9 => h9) (cd := (1, 0, 8)) rfl dDA_makePair_184 (fun v39 hv39 => ?_)
          obtain rfl := (show v39 = .int (nI 8) from hv39)
          refine mi_ge (tgt := 295) hx hb dDA_makePair_187 (by decide) (by omega) (by omega) (fun h22 => ?_) (fun h22 => absurd h22 (by omega))
          refine lv_aload_n hx hb dDA_makePair_295 rfl (lv_at hl 2 rfl) ?_
          refine lv_aload_n hx hb dDA_makePair_296 rfl (lv_at hl 4 rfl) ?_
          refine mp_v (cx := []) (wr := []) hP hD hS hA [] [] rfl rfl rfl (by decide) (va_runV (As := [.ref pk]) (rest := []) F (t_DA_digestOf l g _ T xs pl hO hU hc0 hc3 h0 pk 2592 k_h0 k_pk (by omega)) (cwV 1 hts (wg_app (wg_c kw_736 (wg_c kw_738 (wg_c ks_18 (wg_c kw_5 wg_n)))) kw_739) rfl rfl rfl (by decide +kernel) ⟨by decide, by decide⟩) (pp_VT (en_ok g) (ci := 6) (kd := (15, 0)) hK hO k_h0 (nxg hc0 k_h0 rfl) (fun _ h9 => ko1 h9) hP hD hS hA hE [] rfl rfl rfl) rfl rfl hl.1 rfl (lv_room (Nat.le_of_ble_eq_true rfl)) dDA_makePair_297 ⟨by omega, by omega⟩) (fun  pl H locs hu29 hP hD hS => ?_)
          obtain ⟨hq29, hO⟩ := hu29
          have hP : va_P g.1 vcl ([] ++ pl) _ := hP
          have hD : va_D _ ([] ++ pl) := hD
          refine W.widen (k := 0) (n := 0) (by omega) (by omega) ?_
          refine lv_aload_n hx hb dDA_makePair_300 rfl (lv_at hl 2 rfl) ?_
          refine ty_get (ci := 6) (C := "LatticeKeys$Dsa") (TT := T_DA) (N := 17) (kd := (15, 0)) hx hb hts (wg_ft i_DA) hown hK hO k_h0 (nxg hc0 k_h0 rfl) hP (fun _ h9 => h9) rfl 12 (by decide) (hts _ (wg_t kw_177)) (fun _ h9 => h9) (cd := (3, 1, 64)) rfl dDA_makePair_301 (fun v40 hv40 => ?_)
          obtain ⟨r33, rfl, kr33⟩ := (show ∃ r : Nat, v40 = .ref r ∧ T r = some (1, 64) from hv40)
          refine lv_iconst (v := nI 0) hx hb dDA_makePair_304 (by decide) ?_
          refine lv_aload hx hb dDA_makePair_305 (lv_at hl 5 rfl) ?_
          refine lv_bipush (v := nI 64) hx hb dDA_makePair_307 (by decide) ?_
          refine lv_bipush (v := nI 64) hx hb dDA_makePair_309 (by decide) ?_
          refine ty_copyb11 hx hb (hml.trans hl.1.symm) hown (hts _ (wg_t kw_674)) (hts _ (wg_t kw_526)) (hts _ (wg_t kw_525)) (hts _ (wg_t kw_19)) hK hO kr33 (nxg hc0 kr33 rfl) k_sk (nxg hc0 k_sk rfl) hP hD hS (sp := 0) (dp := 64) (n := 64) (by omega) (by omega) (by omega) (by decide) (Nat.le_of_ble_eq_true rfl) dDA_makePair_311 (fun pl H locs hO hP hD hS => ?_)
          exact mp_vret hx hb hr hlk hP hD hS pl ⟨trivial, hO⟩ [] rfl rfl rfl (by omega) (by omega) dDA_makePair_314
        | succ n22 ih22 =>
          intro i22 pl ls H locs hm22  hl hO hP hD hS
          refine lv_iload hx hb dDA_makePair_181 (lv_at hl 0 rfl) ?_
          refine lv_aload_n hx hb dDA_makePair_183 rfl (lv_at hl 3 rfl) ?_
          refine ty_get (ci := 2) (C := "LatticeKeys$DsaSet") (TT := T_DS) (N := 17) (kd := (45, 0)) hx hb hts (wg_ft i_DS) hown hK hO k_st (nxg hc0 k_st rfl) hP (fun _ h9 => h9) rfl 0 (by decide) (hts _ (wg_t kw_302)) (fun _ h9 => h9) (cd := (1, 0, 8)) rfl dDA_makePair_184 (fun v41 hv41 => ?_)
          obtain rfl := (show v41 = .int (nI 8) from hv41)
          refine mi_ge (tgt := 295) hx hb dDA_makePair_187 (by decide) (by omega) (by omega) (fun h23 => absurd h23 (by omega)) (fun h23 => ?_)
          refine lv_aload_n hx hb dDA_makePair_190 rfl (lv_at hl 2 rfl) ?_
          refine lv_aload_n hx hb dDA_makePair_191 rfl (lv_at hl 3 rfl) ?_
          refine lv_iload hx hb dDA_makePair_192 (lv_at hl 0 rfl) ?_
          refine lv_aload_n hx hb dDA_makePair_194 rfl (lv_at hl 2 rfl) ?_
          refine ty_get (ci := 6) (C := "LatticeKeys$Dsa") (TT := T_DA) (N := 17) (kd := (15, 0)) hx hb hts (wg_ft i_DA) hown hK hO k_h0 (nxg hc0 k_h0 rfl) hP (fun _ h9 => h9) rfl 4 (by decide) (hts _ (wg_t kw_169)) (fun _ h9 => h9) (cd := (3, 3, 7)) rfl dDA_makePair_195 (fun v42 hv42 => ?_)
          obtain ⟨r34, rfl, kr34⟩ := (show ∃ r : Nat, v42 = .ref r ∧ T r = some (3, 7) from hv42)
          refine mp_v (cx := []) (wr := []) hP hD hS hA [] [] rfl rfl rfl (by decide) (va_runV (As := [.ref st, .int (nI i22), .ref r34]) (rest := []) F (t_DA_multiplyRow_2 l g _ T xs pl hO hU hc0 h0 st r34 i22 k_h0 k_st kr34 (by omega)) (cwV 3 hts (wg_app (wg_c kw_712 (wg_c kw_714 (wg_c ks_15 (wg_c kw_5 wg_n)))) kw_715) rfl rfl rfl (by decide +kernel) ⟨by decide, by decide⟩) (pp_VT (en_ok g) (ci := 6) (kd := (15, 0)) hK hO k_h0 (nxg hc0 k_h0 rfl) (fun _ h9 => ko1 h9) hP hD hS hA hE [] rfl rfl rfl) rfl rfl hl.1 rfl (lv_room (Nat.le_of_ble_eq_true rfl)) dDA_makePair_198 ⟨by omega, by omega⟩) (fun  pl H locs hu30 hP hD hS => ?_)
          obtain ⟨hq30, hO⟩ := hu30
          have hP : va_P g.1 vcl ([] ++ pl) _ := hP
          have hD : va_D _ ([] ++ pl) := hD
          refine W.widen (k := 0) (n := 0) (by omega) (by omega) ?_
          refine lv_aload_n hx hb dDA_makePair_201 rfl (lv_at hl 2 rfl) ?_
          refine ty_get (ci := 6) (C := "LatticeKeys$Dsa") (TT := T_DA) (N := 17) (kd := (15, 0)) hx hb hts (wg_ft i_DA) hown hK hO k_h0 (nxg hc0 k_h0 rfl) hP (fun _ h9 => h9) rfl 1 (by decide) (hts _ (wg_t kw_166)) (fun _ h9 => h9) (cd := (3, 12, 0)) rfl dDA_makePair_202 (fun v43 hv43 => ?_)
          obtain ⟨r35, rfl, kr35⟩ := (show ∃ r : Nat, v43 = .ref r ∧ T r = some (12, 0) from hv43)
          refine lv_aload_n hx hb dDA_makePair_205 rfl (lv_at hl 2 rfl) ?_
          refine ty_get (ci := 6) (C := "LatticeKeys$Dsa") (TT := T_DA) (N := 17) (kd := (15, 0)) hx hb hts (wg_ft i_DA) hown hK hO k_h0 (nxg hc0 k_h0 rfl) hP (fun _ h9 => h9) rfl 8 (by decide) (hts _ (wg_t kw_173)) (fun _ h9 => h9) (cd := (3, 3, 8)) rfl dDA_makePair_206 (fun v44 hv44 => ?_)
          obtain ⟨r36, rfl, kr36⟩ := (show ∃ r : Nat, v44 = .ref r ∧ T r = some (3, 8) from hv44)
          refine lv_iload hx hb dDA_makePair_209 (lv_at hl 0 rfl) ?_
          refine ty_aald3 hx hb hK hO kr36 (nxg hc0 kr36 rfl) hP (by omega) (by decide) dDA_makePair_211 (fun r37 kr37 => ?_)
          refine mp_v (cx := []) (wr := []) hP hD hS hA [] [] rfl rfl rfl (by decide) (va_runV (As := [.ref r37]) (rest := []) F (t_RG_restore_12 l g _ T xs pl hO hU hc0 r35 r37 kr35 kr37) (cwV 1 hts (wg_app (wg_c kw_720 (wg_c kw_721 (wg_c kw_722 (wg_c kw_4 wg_n)))) kw_723) rfl rfl rfl (by decide +kernel) ⟨by decide, by decide⟩) (pp_VT (en_ok g) (ci := 4) (kd := (12, 0)) hK hO kr35 (nxg hc0 kr35 rfl) (fun _ h9 => ko1 h9) hP hD hS hA hE [] rfl rfl rfl) rfl rfl hl.1 rfl (lv_room (Nat.le_of_ble_eq_true rfl)) dDA_makePair_212 ⟨by omega, by omega⟩) (fun  pl H locs hu31 hP hD hS => ?_)
          obtain ⟨hq31, hO⟩ := hu31
          have hP : va_P g.1 vcl ([] ++ pl) _ := hP
          have hD : va_D _ ([] ++ pl) := hD
          refine W.widen (k := 0) (n := 0) (by omega) (by omega) ?_
          refine lv_aload_n hx hb dDA_makePair_215 rfl (lv_at hl 2 rfl) ?_
          refine ty_get (ci := 6) (C := "LatticeKeys$Dsa") (TT := T_DA) (N := 17) (kd := (15, 0)) hx hb hts (wg_ft i_DA) hown hK hO k_h0 (nxg hc0 k_h0 rfl) hP (fun _ h9 => h9) rfl 1 (by decide) (hts _ (wg_t kw_166)) (fun _ h9 => h9) (cd := (3, 12, 0)) rfl dDA_makePair_216 (fun v45 hv45 => ?_)
          obtain ⟨r38, rfl, kr38⟩ := (show ∃ r : Nat, v45 = .ref r ∧ T r = some (12, 0) from hv45)
          refine lv_aload_n hx hb dDA_makePair_219 rfl (lv_at hl 2 rfl) ?_
          refine ty_get (ci := 6) (C := "LatticeKeys$Dsa") (TT := T_DA) (N := 17) (kd := (15, 0)) hx hb hts (wg_ft i_DA) hown hK hO k_h0 (nxg hc0 k_h0 rfl) hP (fun _ h9 => h9) rfl 8 (by decide) (hts _ (wg_t kw_173)) (fun _ h9 => h9) (cd := (3, 3, 8)) rfl dDA_makePair_220 (fun v46 hv46 => ?_)
          obtain ⟨r39, rfl, kr39⟩ := (show ∃ r : Nat, v46 = .ref r ∧ T r = some (3, 8) from hv46)
          refine lv_iload hx hb dDA_makePair_223 (lv_at hl 0 rfl) ?_
          refine ty_aald3 hx hb hK hO kr39 (nxg hc0 kr39 rfl) hP (by omega) (by decide) dDA_makePair_225 (fun r40 kr40 => ?_)
          refine lv_aload_n hx hb dDA_makePair_226 rfl (lv_at hl 2 rfl) ?_
          refine ty_get (ci := 6) (C := "LatticeKeys$Dsa") (TT := T_DA) (N := 17) (kd := (15, 0)) hx hb hts (wg_ft i_DA) hown hK hO k_h0 (nxg hc0 k_h0 rfl) hP (fun _ h9 => h9) rfl 5 (by decide) (hts _ (wg_t kw_170)) (fun _ h9 => h9) (cd := (3, 3, 8)) rfl dDA_makePair_227 (fun v47 hv47 => ?_)
          obtain ⟨r41, rfl, kr41⟩ := (show ∃ r : Nat, v47 = .ref r ∧ T r = some (3, 8) from hv47)
          refine lv_iload hx hb dDA_makePair_230 (lv_at hl 0 rfl) ?_
          refine ty_aald3 hx hb hK hO kr41 (nxg hc0 kr41 rfl) hP (by omega) (by decide) dDA_makePair_232 (fun r42 kr42 => ?_)
          refine mp_v (cx := []) (wr := []) hP hD hS hA [] [] rfl rfl rfl (by decide) (va_runV (As := [.ref r40, .ref r42]) (rest := []) F (t_RG_add_12 l g _ T xs pl hO hU hc0 r38 r40 r42 kr38 kr40 kr42) (cwV 2 hts (wg_app (wg_c kw_728 (wg_c kw_729 (wg_c kw_730 (wg_c kw_4 wg_n)))) kw_731) rfl rfl rfl (by decide +kernel) ⟨by decide, by decide⟩) (pp_VT (en_ok g) (ci := 4) (kd := (12, 0)) hK hO kr38 (nxg hc0 kr38 rfl) (fun _ h9 => ko1 h9) hP hD hS hA hE [] rfl rfl rfl) rfl rfl hl.1 rfl (lv_room (Nat.le_of_ble_eq_true rfl)) dDA_makePair_233 ⟨by omega, by omega⟩) (fun  pl H locs hu32 hP hD hS => ?_)
          obtain ⟨hq32, hO⟩ := hu32
          have hP : va_P g.1 vcl ([] ++ pl) _ := hP
          have hD : va_D _ ([] ++ pl) := hD
          refine W.widen (k := 0) (n := 0) (by omega) (by omega) ?_
          refine lv_aload_n hx hb dDA_makePair_236 rfl (lv_at hl 2 rfl) ?_
          refine lv_aload_n hx hb dDA_makePair_237 rfl (lv_at hl 2 rfl) ?_
          refine ty_get (ci := 6) (C := "LatticeKeys$Dsa") (TT := T_DA) (N := 17) (kd := (15, 0)) hx hb hts (wg_ft i_DA) hown hK hO k_h0 (nxg hc0 k_h0 rfl) hP (fun _ h9 => h9) rfl 8 (by decide) (hts _ (wg_t kw_173)) (fun _ h9 => h9) (cd := (3, 3, 8)) rfl dDA_makePair_238 (fun v48 hv48 => ?_)
          obtain ⟨r43, rfl, kr43⟩ := (show ∃ r : Nat, v48 = .ref r ∧ T r = some (3, 8) from hv48)
          refine lv_iload hx hb dDA_makePair_241 (lv_at hl 0 rfl) ?_
          refine ty_aald3 hx hb hK hO kr43 (nxg hc0 kr43 rfl) hP (by omega) (by decide) dDA_makePair_243 (fun r44 kr44 => ?_)
          refine mp_v (cx := []) (wr := []) hP hD hS hA [] [] rfl rfl rfl (by decide) (va_runV (As := [.ref r44]) (rest := []) F (t_DA_splitRow l g _ T xs pl hO hU hc0 h0 r44 k_h0 kr44) (cwV 1 hts (wg_app (wg_c kw_732 (wg_c kw_734 (wg_c ks_17 (wg_c kw_5 wg_n)))) kw_735) rfl rfl rfl (by decide +kernel) ⟨by decide, by decide⟩) (pp_VT (en_ok g) (ci := 6) (kd := (15, 0)) hK hO k_h0 (nxg hc0 k_h0 rfl) (fun _ h9 => ko1 h9) hP hD hS hA hE [] rfl rfl rfl) rfl rfl hl.1 rfl (lv_room (Nat.le_of_ble_eq_true rfl)) dDA_makePair_244 ⟨by omega, by omega⟩) (fun  pl H locs hu33 hP hD hS => ?_)
          obtain ⟨hq33, hO⟩ := hu33
          have hP : va_P g.1 vcl ([] ++ pl) _ := hP
          have hD : va_D _ ([] ++ pl) := hD
          refine W.widen (k := 0) (n := 0) (by omega) (by omega) ?_
          refine lv_aload_n hx hb dDA_makePair_247 rfl (lv_at hl 2 rfl) ?_
          refine ty_get (ci := 6) (C := "LatticeKeys$Dsa") (TT := T_DA) (N := 17) (kd := (15, 0)) hx hb hts (wg_ft i_DA) hown hK hO k_h0 (nxg hc0 k_h0 rfl) hP (fun _ h9 => h9) rfl 8 (by decide) (hts _ (wg_t kw_173)) (fun _ h9 => h9) (cd := (3, 3, 8)) rfl dDA_makePair_248 (fun v49 hv49 => ?_)
          obtain ⟨r45, rfl, kr45⟩ := (show ∃ r : Nat, v49 = .ref r ∧ T r = some (3, 8) from hv49)
          refine lv_iload hx hb dDA_makePair_251 (lv_at hl 0 rfl) ?_
          refine ty_aald3 hx hb hK hO kr45 (nxg hc0 kr45 rfl) hP (by omega) (by decide) dDA_makePair_253 (fun r46 kr46 => ?_)
          refine lv_bipush (v := nI 10) hx hb dDA_makePair_254 (by decide) ?_
          refine lv_aload_n hx hb dDA_makePair_256 rfl (lv_at hl 4 rfl) ?_
          refine lv_bipush (v := nI 32) hx hb dDA_makePair_257 (by decide) ?_
          refine lv_sipush (v := nI 320) hx hb dDA_makePair_259 (by decide) ?_
          refine lv_iload hx hb dDA_makePair_262 (lv_at hl 0 rfl) ?_
          refine mi_imul hx hb dDA_makePair_264 ?_
          refine mi_iadd hx hb dDA_makePair_265 ?_
          refine mp_v (cx := []) (wr := []) hP hD hS hA [] [] rfl rfl rfl (by decide) (va_runS (As := [.ref r46, .int (nI 10), .ref pk, .int (nI (32 + (320 * i22)))]) (rest := []) F (t_BT_pack l g _ T xs pl hO hU hc0 r46 pk 2592 10 (32 + (320 * i22)) kr46 k_pk (by omega) (by omega) (by omega)) (va_cwS 4 hts (wg_app (wg_c kw_702 (wg_c kw_645 (wg_c kw_22 wg_n))) kw_646) rfl rfl rfl (by decide +kernel) ⟨by decide, by decide⟩) (pp_S (en_ok g) hP hD hS hA hE [] rfl rfl) rfl rfl hl.1 rfl (lv_room (Nat.le_of_ble_eq_true rfl)) dDA_makePair_266 ⟨by omega, by omega⟩) (fun  pl H locs hu34 hP hD hS => ?_)
          obtain ⟨hq34, hO⟩ := hu34
          have hP : va_P g.1 vcl ([] ++ pl) _ := hP
          have hD : va_D _ ([] ++ pl) := hD
          refine W.widen (k := 0) (n := 0) (by omega) (by omega) ?_
          refine lv_aload_n hx hb dDA_makePair_269 rfl (lv_at hl 2 rfl) ?_
          refine ty_get (ci := 6) (C := "LatticeKeys$Dsa") (TT := T_DA) (N := 17) (kd := (15, 0)) hx hb hts (wg_ft i_DA) hown hK hO k_h0 (nxg hc0 k_h0 rfl) hP (fun _ h9 => h9) rfl 10 (by decide) (hts _ (wg_t kw_175)) (fun _ h9 => h9) (cd := (3, 0, 256)) rfl dDA_makePair_270 (fun v50 hv50 => ?_)
          obtain ⟨r47, rfl, kr47⟩ := (show ∃ r : Nat, v50 = .ref r ∧ T r = some (0, 256) from hv50)
          refine lv_bipush (v := nI 13) hx hb dDA_makePair_273 (by decide) ?_
          refine lv_aload hx hb dDA_makePair_275 (lv_at hl 5 rfl) ?_
          refine lv_iload hx hb dDA_makePair_277 (lv_at hl 1 rfl) ?_
          refine lv_sipush (v := nI 416) hx hb dDA_makePair_279 (by decide) ?_
          refine lv_iload hx hb dDA_makePair_282 (lv_at hl 0 rfl) ?_
          refine mi_imul hx hb dDA_makePair_284 ?_
          refine mi_iadd hx hb dDA_makePair_285 ?_
          refine mp_v (cx := []) (wr := []) hP hD hS hA [] [] rfl rfl rfl (by decide) (va_runS (As := [.ref r47, .int (nI 13), .ref sk, .int (nI (1568 + (416 * i22)))]) (rest := []) F (t_BT_pack l g _ T xs pl hO hU hc0 r47 sk 4896 13 (1568 + (416 * i22)) kr47 k_sk (by omega) (by omega) (by omega)) (va_cwS 4 hts (wg_app (wg_c kw_702 (wg_c kw_645 (wg_c kw_22 wg_n))) kw_646) rfl rfl rfl (by decide +kernel) ⟨by decide, by decide⟩) (pp_S (en_ok g) hP hD hS hA hE [] rfl rfl) rfl rfl hl.1 rfl (lv_room (Nat.le_of_ble_eq_true rfl)) dDA_makePair_286 ⟨by omega, by omega⟩) (fun  pl H locs hu35 hP hD hS => ?_)
          obtain ⟨hq35, hO⟩ := hu35
          have hP : va_P g.1 vcl ([] ++ pl) _ := hP
          have hD : va_D _ ([] ++ pl) := hD
          refine W.widen (k := 0) (n := 0) (by omega) (by omega) ?_
          refine mi_iinc (k := 0) (x := i22) (d := 1) (y := i22 + 1) (lv' := [(6, .int (nI (i22 + 1))), (5, .int (nI 1568)), (0, .ref h0), (1, .ref st), (3, .ref pk), (4, .ref sk)]) hx hb dDA_makePair_289 hl rfl (by decide) rfl (by decide) rfl (fun ls hl => ?_)
          refine lv_goto (tgt := 181) hx hb dDA_makePair_292 (by decide) ?_
          exact ih22 (i22 + 1) pl ls H locs (by omega) (lv_sub hl [0, 1, 2, 3, 4, 5] rfl) hO hP hD hS
      exact lp22 8 0 pl ls _ _ (by omega) (lv_sub hl [0, 1, 2, 3, 4, 5] rfl) hO hP hD hS
    | succ n21 ih21 =>
      intro i21 pl ls H locs hm21  hl hO hP hD hS
      refine lv_iload hx hb dDA_makePair_126 (lv_at hl 0 rfl) ?_
      refine lv_aload_n hx hb dDA_makePair_128 rfl (lv_at hl 2 rfl) ?_
      refine ty_get (ci := 2) (C := "LatticeKeys$DsaSet") (TT := T_DS) (N := 17) (kd := (45, 0)) hx hb hts (wg_ft i_DS) hown hK hO k_st (nxg hc0 k_st rfl) hP (fun _ h9 => h9) rfl 1 (by decide) (hts _ (wg_t kw_305)) (fun _ h9 => h9) (cd := (1, 0, 7)) rfl dDA_makePair_129 (fun v51 hv51 => ?_)
      obtain rfl := (show v51 = .int (nI 7) from hv51)
      refine mi_ge (tgt := 155) hx hb dDA_makePair_132 (by decide) (by omega) (by omega) (fun h24 => absurd h24 (by omega)) (fun h24 => ?_)
      refine lv_aload_n hx hb dDA_makePair_135 rfl (lv_at hl 1 rfl) ?_
      refine ty_get (ci := 6) (C := "LatticeKeys$Dsa") (TT := T_DA) (N := 17) (kd := (15, 0)) hx hb hts (wg_ft i_DA) hown hK hO k_h0 (nxg hc0 k_h0 rfl) hP (fun _ h9 => h9) rfl 1 (by decide) (hts _ (wg_t kw_166)) (fun _ h9 => h9) (cd := (3, 12, 0)) rfl dDA_makePair_136 (fun v52 hv52 => ?_)
      obtain ⟨r48, rfl, kr48⟩ := (show ∃ r : Nat, v52 = .ref r ∧ T r = some (12, 0) from hv52)
      refine lv_aload_n hx hb dDA_makePair_139 rfl (lv_at hl 1 rfl) ?_
      refine ty_get (ci := 6) (C := "LatticeKeys$Dsa") (TT := T_DA) (N := 17) (kd := (15, 0)) hx hb hts (wg_ft i_DA) hown hK hO k_h0 (nxg hc0 k_h0 rfl) hP (fun _ h9 => h9) rfl 4 (by decide) (hts _ (wg_t kw_169)) (fun _ h9 => h9) (cd := (3, 3, 7)) rfl dDA_makePair_140 (fun v53 hv53 => ?_)
      obtain ⟨r49, rfl, kr49⟩ := (show ∃ r : Nat, v53 = .ref r ∧ T r = some (3, 7) from hv53)
      refine lv_iload hx hb dDA_makePair_143 (lv_at hl 0 rfl) ?_
      refine ty_aald3 hx hb hK hO kr49 (nxg hc0 kr49 rfl) hP (by omega) (by decide) dDA_makePair_145 (fun r50 kr50 => ?_)
      refine mp_v (cx := []) (wr := []) hP hD hS hA [] [] rfl rfl rfl (by decide) (va_runV (As := [.ref r50]) (rest := []) F (t_RG_transform_12 l g _ T xs pl hO hU hc0 r48 r50 kr48 kr50) (cwV 1 hts (wg_app (wg_c kw_711 (wg_c kw_637 (wg_c kw_638 (wg_c kw_4 wg_n)))) kw_639) rfl rfl rfl (by decide +kernel) ⟨by decide, by decide⟩) (pp_VT (en_ok g) (ci := 4) (kd := (12, 0)) hK hO kr48 (nxg hc0 kr48 rfl) (fun _ h9 => ko1 h9) hP hD hS hA hE [] rfl rfl rfl) rfl rfl hl.1 rfl (lv_room (Nat.le_of_ble_eq_true rfl)) dDA_makePair_146 ⟨by omega, by omega⟩) (fun  pl H locs hu36 hP hD hS => ?_)
      obtain ⟨hq36, hO⟩ := hu36
      have hP : va_P g.1 vcl ([] ++ pl) _ := hP
      have hD : va_D _ ([] ++ pl) := hD
      refine W.widen (k := 0) (n := 0) (by omega) (by omega) ?_
      refine mi_iinc (k := 0) (x := i21) (d := 1) (y := i21 + 1) (lv' := [(5, .int (nI (i21 + 1))), (0, .ref h0), (1, .ref st), (3, .ref pk), (4, .ref sk)]) hx hb dDA_makePair_149 hl rfl (by decide) rfl (by decide) rfl (fun ls hl => ?_)
      refine lv_goto (tgt := 126) hx hb dDA_makePair_152 (by decide) ?_
      exact ih21 (i21 + 1) pl ls H locs (by omega) (lv_sub hl [0, 1, 2, 3, 4] rfl) hO hP hD hS
  exact lp21 7 0 pl ls _ _ (by omega) (lv_sub hl [0, 1, 2, 4, 5] rfl) hO hP hD hS
