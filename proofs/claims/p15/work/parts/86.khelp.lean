abbrev c_AR_copyOf : ByteArray := prog_33_method_121_code
abbrev y_AR_copyOf : MethodName := ⟨"java/util/Arrays", "copyOf", "([BI)[B"⟩
abbrev w_AR_copyOf : List Cond := Cond.code y_AR_copyOf c_AR_copyOf 3 (Option.some (Jvm.ClassFile.FieldType.array Jvm.ClassFile.FieldType.byte)) :: WG
theorem dAR_copyOf_0 : decode c_AR_copyOf 0 = .ok (.iload_n 1, 1) := by decide +kernel
theorem dAR_copyOf_1 : decode c_AR_copyOf 1 = .ok (.aload_n 0, 1) := by decide +kernel
theorem dAR_copyOf_2 : decode c_AR_copyOf 2 = .ok (.arraylength, 1) := by decide +kernel
theorem dAR_copyOf_3 : decode c_AR_copyOf 3 = .ok (.if_icmp .ne 11, 3) := by decide +kernel
theorem dAR_copyOf_6 : decode c_AR_copyOf 6 = .ok (.aload_n 0, 1) := by decide +kernel
theorem dAR_copyOf_7 : decode c_AR_copyOf 7 = .ok (.invokevirtual 310, 3) := by decide +kernel
theorem dAR_copyOf_10 : decode c_AR_copyOf 10 = .ok (.checkcast 311, 3) := by decide +kernel
theorem dAR_copyOf_13 : decode c_AR_copyOf 13 = .ok (.areturn, 1) := by decide +kernel
theorem dAR_copyOf_14 : decode c_AR_copyOf 14 = .ok (.iload_n 1, 1) := by decide +kernel
theorem dAR_copyOf_15 : decode c_AR_copyOf 15 = .ok (.newarray .byte, 2) := by decide +kernel
theorem dAR_copyOf_17 : decode c_AR_copyOf 17 = .ok (.astore_n 2, 1) := by decide +kernel
theorem dAR_copyOf_18 : decode c_AR_copyOf 18 = .ok (.aload_n 0, 1) := by decide +kernel
theorem dAR_copyOf_19 : decode c_AR_copyOf 19 = .ok (.iconst 0, 1) := by decide +kernel
theorem dAR_copyOf_20 : decode c_AR_copyOf 20 = .ok (.aload_n 2, 1) := by decide +kernel
theorem dAR_copyOf_21 : decode c_AR_copyOf 21 = .ok (.iconst 0, 1) := by decide +kernel
theorem dAR_copyOf_22 : decode c_AR_copyOf 22 = .ok (.aload_n 0, 1) := by decide +kernel
theorem dAR_copyOf_23 : decode c_AR_copyOf 23 = .ok (.arraylength, 1) := by decide +kernel
theorem dAR_copyOf_24 : decode c_AR_copyOf 24 = .ok (.iload_n 1, 1) := by decide +kernel
theorem dAR_copyOf_25 : decode c_AR_copyOf 25 = .ok (.invokestatic 304, 3) := by decide +kernel
theorem dAR_copyOf_28 : decode c_AR_copyOf 28 = .ok (.invokestatic 150, 3) := by decide +kernel
theorem dAR_copyOf_31 : decode c_AR_copyOf 31 = .ok (.aload_n 2, 1) := by decide +kernel
theorem dAR_copyOf_32 : decode c_AR_copyOf 32 = .ok (.areturn, 1) := by decide +kernel
abbrev c_AR_checkLength : ByteArray := prog_33_method_131_code
abbrev y_AR_checkLength : MethodName := ⟨"java/util/Arrays", "checkLength", "(II)V"⟩
abbrev w_AR_checkLength : List Cond := Cond.code y_AR_checkLength c_AR_checkLength 2 none :: WG
theorem dAR_checkLength_0 : decode c_AR_checkLength 0 = .ok (.iload_n 1, 1) := by decide +kernel
theorem dAR_checkLength_1 : decode c_AR_checkLength 1 = .ok (.iload_n 0, 1) := by decide +kernel
theorem dAR_checkLength_2 : decode c_AR_checkLength 2 = .ok (.if_icmp .ge 35, 3) := by decide +kernel
theorem dAR_checkLength_5 : decode c_AR_checkLength 5 = .ok (.new 43, 3) := by decide +kernel
theorem dAR_checkLength_8 : decode c_AR_checkLength 8 = .ok (.dup, 1) := by decide +kernel
theorem dAR_checkLength_9 : decode c_AR_checkLength 9 = .ok (.new 45, 3) := by decide +kernel
theorem dAR_checkLength_12 : decode c_AR_checkLength 12 = .ok (.dup, 1) := by decide +kernel
theorem dAR_checkLength_13 : decode c_AR_checkLength 13 = .ok (.invokespecial 47, 3) := by decide +kernel
theorem dAR_checkLength_16 : decode c_AR_checkLength 16 = .ok (.iload_n 0, 1) := by decide +kernel
theorem dAR_checkLength_17 : decode c_AR_checkLength 17 = .ok (.invokevirtual 54, 3) := by decide +kernel
theorem dAR_checkLength_20 : decode c_AR_checkLength 20 = .ok (.ldc_w 337, 3) := by decide +kernel
theorem dAR_checkLength_23 : decode c_AR_checkLength 23 = .ok (.invokevirtual 50, 3) := by decide +kernel
theorem dAR_checkLength_26 : decode c_AR_checkLength 26 = .ok (.iload_n 1, 1) := by decide +kernel
theorem dAR_checkLength_27 : decode c_AR_checkLength 27 = .ok (.invokevirtual 54, 3) := by decide +kernel
theorem dAR_checkLength_30 : decode c_AR_checkLength 30 = .ok (.invokevirtual 61, 3) := by decide +kernel
theorem dAR_checkLength_33 : decode c_AR_checkLength 33 = .ok (.invokespecial 65, 3) := by decide +kernel
theorem dAR_checkLength_36 : decode c_AR_checkLength 36 = .ok (.athrow, 1) := by decide +kernel
theorem dAR_checkLength_37 : decode c_AR_checkLength 37 = .ok (.return_, 1) := by decide +kernel
abbrev c_AR_copyOfRangeByte : ByteArray := prog_33_method_133_code
abbrev y_AR_copyOfRangeByte : MethodName := ⟨"java/util/Arrays", "copyOfRangeByte", "([BII)[B"⟩
abbrev w_AR_copyOfRangeByte : List Cond := Cond.code y_AR_copyOfRangeByte c_AR_copyOfRangeByte 5 (Option.some (Jvm.ClassFile.FieldType.array Jvm.ClassFile.FieldType.byte)) :: WG
theorem dAR_copyOfRangeByte_0 : decode c_AR_copyOfRangeByte 0 = .ok (.iload_n 1, 1) := by decide +kernel
theorem dAR_copyOfRangeByte_1 : decode c_AR_copyOfRangeByte 1 = .ok (.iload_n 2, 1) := by decide +kernel
theorem dAR_copyOfRangeByte_2 : decode c_AR_copyOfRangeByte 2 = .ok (.invokestatic 343, 3) := by decide +kernel
theorem dAR_copyOfRangeByte_5 : decode c_AR_copyOfRangeByte 5 = .ok (.iload_n 2, 1) := by decide +kernel
theorem dAR_copyOfRangeByte_6 : decode c_AR_copyOfRangeByte 6 = .ok (.iload_n 1, 1) := by decide +kernel
theorem dAR_copyOfRangeByte_7 : decode c_AR_copyOfRangeByte 7 = .ok (.isub, 1) := by decide +kernel
theorem dAR_copyOfRangeByte_8 : decode c_AR_copyOfRangeByte 8 = .ok (.istore_n 3, 1) := by decide +kernel
theorem dAR_copyOfRangeByte_9 : decode c_AR_copyOfRangeByte 9 = .ok (.iload_n 3, 1) := by decide +kernel
theorem dAR_copyOfRangeByte_10 : decode c_AR_copyOfRangeByte 10 = .ok (.newarray .byte, 2) := by decide +kernel
theorem dAR_copyOfRangeByte_12 : decode c_AR_copyOfRangeByte 12 = .ok (.astore 4, 2) := by decide +kernel
theorem dAR_copyOfRangeByte_14 : decode c_AR_copyOfRangeByte 14 = .ok (.aload_n 0, 1) := by decide +kernel
theorem dAR_copyOfRangeByte_15 : decode c_AR_copyOfRangeByte 15 = .ok (.iload_n 1, 1) := by decide +kernel
theorem dAR_copyOfRangeByte_16 : decode c_AR_copyOfRangeByte 16 = .ok (.aload 4, 2) := by decide +kernel
theorem dAR_copyOfRangeByte_18 : decode c_AR_copyOfRangeByte 18 = .ok (.iconst 0, 1) := by decide +kernel
theorem dAR_copyOfRangeByte_19 : decode c_AR_copyOfRangeByte 19 = .ok (.aload_n 0, 1) := by decide +kernel
theorem dAR_copyOfRangeByte_20 : decode c_AR_copyOfRangeByte 20 = .ok (.arraylength, 1) := by decide +kernel
theorem dAR_copyOfRangeByte_21 : decode c_AR_copyOfRangeByte 21 = .ok (.iload_n 1, 1) := by decide +kernel
theorem dAR_copyOfRangeByte_22 : decode c_AR_copyOfRangeByte 22 = .ok (.isub, 1) := by decide +kernel
theorem dAR_copyOfRangeByte_23 : decode c_AR_copyOfRangeByte 23 = .ok (.iload_n 3, 1) := by decide +kernel
theorem dAR_copyOfRangeByte_24 : decode c_AR_copyOfRangeByte 24 = .ok (.invokestatic 304, 3) := by decide +kernel
theorem dAR_copyOfRangeByte_27 : decode c_AR_copyOfRangeByte 27 = .ok (.invokestatic 150, 3) := by decide +kernel
theorem dAR_copyOfRangeByte_30 : decode c_AR_copyOfRangeByte 30 = .ok (.aload 4, 2) := by decide +kernel
theorem dAR_copyOfRangeByte_32 : decode c_AR_copyOfRangeByte 32 = .ok (.areturn, 1) := by decide +kernel
abbrev c_AR_copyOfRange : ByteArray := prog_33_method_132_code
abbrev y_AR_copyOfRange : MethodName := ⟨"java/util/Arrays", "copyOfRange", "([BII)[B"⟩
abbrev w_AR_copyOfRange : List Cond := Cond.code y_AR_copyOfRange c_AR_copyOfRange 3 (Option.some (Jvm.ClassFile.FieldType.array Jvm.ClassFile.FieldType.byte)) :: WG
theorem dAR_copyOfRange_0 : decode c_AR_copyOfRange 0 = .ok (.iload_n 1, 1) := by decide +kernel
theorem dAR_copyOfRange_1 : decode c_AR_copyOfRange 1 = .ok (.ifCond .ne 9, 3) := by decide +kernel
theorem dAR_copyOfRange_4 : decode c_AR_copyOfRange 4 = .ok (.iload_n 2, 1) := by decide +kernel
theorem dAR_copyOfRange_5 : decode c_AR_copyOfRange 5 = .ok (.aload_n 0, 1) := by decide +kernel
theorem dAR_copyOfRange_6 : decode c_AR_copyOfRange 6 = .ok (.arraylength, 1) := by decide +kernel
theorem dAR_copyOfRange_7 : decode c_AR_copyOfRange 7 = .ok (.if_icmp .eq 10, 3) := by decide +kernel
theorem dAR_copyOfRange_10 : decode c_AR_copyOfRange 10 = .ok (.aload_n 0, 1) := by decide +kernel
theorem dAR_copyOfRange_11 : decode c_AR_copyOfRange 11 = .ok (.iload_n 1, 1) := by decide +kernel
theorem dAR_copyOfRange_12 : decode c_AR_copyOfRange 12 = .ok (.iload_n 2, 1) := by decide +kernel
theorem dAR_copyOfRange_13 : decode c_AR_copyOfRange 13 = .ok (.invokestatic 339, 3) := by decide +kernel
theorem dAR_copyOfRange_16 : decode c_AR_copyOfRange 16 = .ok (.areturn, 1) := by decide +kernel
theorem dAR_copyOfRange_17 : decode c_AR_copyOfRange 17 = .ok (.aload_n 0, 1) := by decide +kernel
theorem dAR_copyOfRange_18 : decode c_AR_copyOfRange 18 = .ok (.invokevirtual 310, 3) := by decide +kernel
theorem dAR_copyOfRange_21 : decode c_AR_copyOfRange 21 = .ok (.checkcast 311, 3) := by decide +kernel
theorem dAR_copyOfRange_24 : decode c_AR_copyOfRange 24 = .ok (.areturn, 1) := by decide +kernel
abbrev c_KP_init : ByteArray := prog_8_method_1_code
abbrev y_KP_init : MethodName := ⟨"LatticeKeys$KeyPair", "<init>", "(I[B[B)V"⟩
abbrev w_KP_init : List Cond := Cond.code y_KP_init c_KP_init 4 none :: WG
theorem dKP_init_0 : decode c_KP_init 0 = .ok (.aload_n 0, 1) := by decide +kernel
theorem dKP_init_1 : decode c_KP_init 1 = .ok (.invokespecial 1, 3) := by decide +kernel
theorem dKP_init_4 : decode c_KP_init 4 = .ok (.aload_n 0, 1) := by decide +kernel
theorem dKP_init_5 : decode c_KP_init 5 = .ok (.iload_n 1, 1) := by decide +kernel
theorem dKP_init_6 : decode c_KP_init 6 = .ok (.putfield 7, 3) := by decide +kernel
theorem dKP_init_9 : decode c_KP_init 9 = .ok (.aload_n 0, 1) := by decide +kernel
theorem dKP_init_10 : decode c_KP_init 10 = .ok (.aload_n 2, 1) := by decide +kernel
theorem dKP_init_11 : decode c_KP_init 11 = .ok (.putfield 13, 3) := by decide +kernel
theorem dKP_init_14 : decode c_KP_init 14 = .ok (.aload_n 0, 1) := by decide +kernel
theorem dKP_init_15 : decode c_KP_init 15 = .ok (.aload_n 3, 1) := by decide +kernel
theorem dKP_init_16 : decode c_KP_init 16 = .ok (.putfield 17, 3) := by decide +kernel
theorem dKP_init_19 : decode c_KP_init 19 = .ok (.return_, 1) := by decide +kernel
abbrev c_K_writeNumber : ByteArray := prog_1_method_18_code
abbrev y_K_writeNumber : MethodName := ⟨"LatticeKeys", "writeNumber", "(I)V"⟩
abbrev w_K_writeNumber : List Cond := Cond.code y_K_writeNumber c_K_writeNumber 2 none :: WG
theorem dK_writeNumber_0 : decode c_K_writeNumber 0 = .ok (.aload_n 0, 1) := by decide +kernel
theorem dK_writeNumber_1 : decode c_K_writeNumber 1 = .ok (.getfield 9, 3) := by decide +kernel
theorem dK_writeNumber_4 : decode c_K_writeNumber 4 = .ok (.aload_n 0, 1) := by decide +kernel
theorem dK_writeNumber_5 : decode c_K_writeNumber 5 = .ok (.getfield 13, 3) := by decide +kernel
theorem dK_writeNumber_8 : decode c_K_writeNumber 8 = .ok (.iload_n 1, 1) := by decide +kernel
theorem dK_writeNumber_9 : decode c_K_writeNumber 9 = .ok (.bipush 24, 2) := by decide +kernel
theorem dK_writeNumber_11 : decode c_K_writeNumber 11 = .ok (.iushr, 1) := by decide +kernel
theorem dK_writeNumber_12 : decode c_K_writeNumber 12 = .ok (.i2b, 1) := by decide +kernel
theorem dK_writeNumber_13 : decode c_K_writeNumber 13 = .ok (.bastore, 1) := by decide +kernel
theorem dK_writeNumber_14 : decode c_K_writeNumber 14 = .ok (.aload_n 0, 1) := by decide +kernel
theorem dK_writeNumber_15 : decode c_K_writeNumber 15 = .ok (.getfield 9, 3) := by decide +kernel
theorem dK_writeNumber_18 : decode c_K_writeNumber 18 = .ok (.aload_n 0, 1) := by decide +kernel
theorem dK_writeNumber_19 : decode c_K_writeNumber 19 = .ok (.getfield 13, 3) := by decide +kernel
theorem dK_writeNumber_22 : decode c_K_writeNumber 22 = .ok (.iconst 1, 1) := by decide +kernel
theorem dK_writeNumber_23 : decode c_K_writeNumber 23 = .ok (.iadd, 1) := by decide +kernel
theorem dK_writeNumber_24 : decode c_K_writeNumber 24 = .ok (.iload_n 1, 1) := by decide +kernel
theorem dK_writeNumber_25 : decode c_K_writeNumber 25 = .ok (.bipush 16, 2) := by decide +kernel
theorem dK_writeNumber_27 : decode c_K_writeNumber 27 = .ok (.iushr, 1) := by decide +kernel
theorem dK_writeNumber_28 : decode c_K_writeNumber 28 = .ok (.i2b, 1) := by decide +kernel
theorem dK_writeNumber_29 : decode c_K_writeNumber 29 = .ok (.bastore, 1) := by decide +kernel
theorem dK_writeNumber_30 : decode c_K_writeNumber 30 = .ok (.aload_n 0, 1) := by decide +kernel
theorem dK_writeNumber_31 : decode c_K_writeNumber 31 = .ok (.getfield 9, 3) := by decide +kernel
theorem dK_writeNumber_34 : decode c_K_writeNumber 34 = .ok (.aload_n 0, 1) := by decide +kernel
theorem dK_writeNumber_35 : decode c_K_writeNumber 35 = .ok (.getfield 13, 3) := by decide +kernel
theorem dK_writeNumber_38 : decode c_K_writeNumber 38 = .ok (.iconst 2, 1) := by decide +kernel
theorem dK_writeNumber_39 : decode c_K_writeNumber 39 = .ok (.iadd, 1) := by decide +kernel
theorem dK_writeNumber_40 : decode c_K_writeNumber 40 = .ok (.iload_n 1, 1) := by decide +kernel
theorem dK_writeNumber_41 : decode c_K_writeNumber 41 = .ok (.bipush 8, 2) := by decide +kernel
theorem dK_writeNumber_43 : decode c_K_writeNumber 43 = .ok (.iushr, 1) := by decide +kernel
theorem dK_writeNumber_44 : decode c_K_writeNumber 44 = .ok (.i2b, 1) := by decide +kernel
theorem dK_writeNumber_45 : decode c_K_writeNumber 45 = .ok (.bastore, 1) := by decide +kernel
theorem dK_writeNumber_46 : decode c_K_writeNumber 46 = .ok (.aload_n 0, 1) := by decide +kernel
theorem dK_writeNumber_47 : decode c_K_writeNumber 47 = .ok (.getfield 9, 3) := by decide +kernel
theorem dK_writeNumber_50 : decode c_K_writeNumber 50 = .ok (.aload_n 0, 1) := by decide +kernel
theorem dK_writeNumber_51 : decode c_K_writeNumber 51 = .ok (.getfield 13, 3) := by decide +kernel
theorem dK_writeNumber_54 : decode c_K_writeNumber 54 = .ok (.iconst 3, 1) := by decide +kernel
theorem dK_writeNumber_55 : decode c_K_writeNumber 55 = .ok (.iadd, 1) := by decide +kernel
theorem dK_writeNumber_56 : decode c_K_writeNumber 56 = .ok (.iload_n 1, 1) := by decide +kernel
theorem dK_writeNumber_57 : decode c_K_writeNumber 57 = .ok (.i2b, 1) := by decide +kernel
theorem dK_writeNumber_58 : decode c_K_writeNumber 58 = .ok (.bastore, 1) := by decide +kernel
theorem dK_writeNumber_59 : decode c_K_writeNumber 59 = .ok (.aload_n 0, 1) := by decide +kernel
theorem dK_writeNumber_60 : decode c_K_writeNumber 60 = .ok (.dup, 1) := by decide +kernel
theorem dK_writeNumber_61 : decode c_K_writeNumber 61 = .ok (.getfield 13, 3) := by decide +kernel
theorem dK_writeNumber_64 : decode c_K_writeNumber 64 = .ok (.iconst 4, 1) := by decide +kernel
theorem dK_writeNumber_65 : decode c_K_writeNumber 65 = .ok (.iadd, 1) := by decide +kernel
theorem dK_writeNumber_66 : decode c_K_writeNumber 66 = .ok (.putfield 13, 3) := by decide +kernel
theorem dK_writeNumber_69 : decode c_K_writeNumber 69 = .ok (.return_, 1) := by decide +kernel
abbrev c_K_isSet : ByteArray := prog_1_method_19_code
abbrev y_K_isSet : MethodName := ⟨"LatticeKeys", "isSet", "(I)Z"⟩
abbrev w_K_isSet : List Cond := Cond.code y_K_isSet c_K_isSet 1 (some .boolean) :: WG
theorem dK_isSet_0 : decode c_K_isSet 0 = .ok (.iload_n 0, 1) := by decide +kernel
theorem dK_isSet_1 : decode c_K_isSet 1 = .ok (.ifCond .lt 13, 3) := by decide +kernel
theorem dK_isSet_4 : decode c_K_isSet 4 = .ok (.iload_n 0, 1) := by decide +kernel
theorem dK_isSet_5 : decode c_K_isSet 5 = .ok (.bipush 6, 2) := by decide +kernel
theorem dK_isSet_7 : decode c_K_isSet 7 = .ok (.if_icmp .ge 7, 3) := by decide +kernel
theorem dK_isSet_10 : decode c_K_isSet 10 = .ok (.iconst 1, 1) := by decide +kernel
theorem dK_isSet_11 : decode c_K_isSet 11 = .ok (.goto 4, 3) := by decide +kernel
theorem dK_isSet_14 : decode c_K_isSet 14 = .ok (.iconst 0, 1) := by decide +kernel
theorem dK_isSet_15 : decode c_K_isSet 15 = .ok (.ireturn, 1) := by decide +kernel
abbrev c_K_publicLength : ByteArray := prog_1_method_21_code
abbrev y_K_publicLength : MethodName := ⟨"LatticeKeys", "publicLength", "(I)I"⟩
abbrev w_K_publicLength : List Cond := Cond.code y_K_publicLength c_K_publicLength 2 (some .int) :: WG
theorem dK_publicLength_0 : decode c_K_publicLength 0 = .ok (.iload_n 1, 1) := by decide +kernel
theorem dK_publicLength_1 : decode c_K_publicLength 1 = .ok (.iconst 3, 1) := by decide +kernel
theorem dK_publicLength_2 : decode c_K_publicLength 2 = .ok (.if_icmp .ge 15, 3) := by decide +kernel
theorem dK_publicLength_5 : decode c_K_publicLength 5 = .ok (.aload_n 0, 1) := by decide +kernel
theorem dK_publicLength_6 : decode c_K_publicLength 6 = .ok (.getfield 34, 3) := by decide +kernel
theorem dK_publicLength_9 : decode c_K_publicLength 9 = .ok (.iload_n 1, 1) := by decide +kernel
theorem dK_publicLength_10 : decode c_K_publicLength 10 = .ok (.aaload, 1) := by decide +kernel
theorem dK_publicLength_11 : decode c_K_publicLength 11 = .ok (.getfield 243, 3) := by decide +kernel
theorem dK_publicLength_14 : decode c_K_publicLength 14 = .ok (.goto 14, 3) := by decide +kernel
theorem dK_publicLength_17 : decode c_K_publicLength 17 = .ok (.aload_n 0, 1) := by decide +kernel
theorem dK_publicLength_18 : decode c_K_publicLength 18 = .ok (.getfield 40, 3) := by decide +kernel
theorem dK_publicLength_21 : decode c_K_publicLength 21 = .ok (.iload_n 1, 1) := by decide +kernel
theorem dK_publicLength_22 : decode c_K_publicLength 22 = .ok (.iconst 3, 1) := by decide +kernel
theorem dK_publicLength_23 : decode c_K_publicLength 23 = .ok (.isub, 1) := by decide +kernel
theorem dK_publicLength_24 : decode c_K_publicLength 24 = .ok (.aaload, 1) := by decide +kernel
theorem dK_publicLength_25 : decode c_K_publicLength 25 = .ok (.getfield 245, 3) := by decide +kernel
theorem dK_publicLength_28 : decode c_K_publicLength 28 = .ok (.ireturn, 1) := by decide +kernel
abbrev c_K_secretLength : ByteArray := prog_1_method_22_code
abbrev y_K_secretLength : MethodName := ⟨"LatticeKeys", "secretLength", "(I)I"⟩
abbrev w_K_secretLength : List Cond := Cond.code y_K_secretLength c_K_secretLength 2 (some .int) :: WG
theorem dK_secretLength_0 : decode c_K_secretLength 0 = .ok (.iload_n 1, 1) := by decide +kernel
theorem dK_secretLength_1 : decode c_K_secretLength 1 = .ok (.iconst 3, 1) := by decide +kernel
theorem dK_secretLength_2 : decode c_K_secretLength 2 = .ok (.if_icmp .ge 15, 3) := by decide +kernel
theorem dK_secretLength_5 : decode c_K_secretLength 5 = .ok (.aload_n 0, 1) := by decide +kernel
theorem dK_secretLength_6 : decode c_K_secretLength 6 = .ok (.getfield 34, 3) := by decide +kernel
theorem dK_secretLength_9 : decode c_K_secretLength 9 = .ok (.iload_n 1, 1) := by decide +kernel
theorem dK_secretLength_10 : decode c_K_secretLength 10 = .ok (.aaload, 1) := by decide +kernel
theorem dK_secretLength_11 : decode c_K_secretLength 11 = .ok (.getfield 246, 3) := by decide +kernel
theorem dK_secretLength_14 : decode c_K_secretLength 14 = .ok (.goto 14, 3) := by decide +kernel
theorem dK_secretLength_17 : decode c_K_secretLength 17 = .ok (.aload_n 0, 1) := by decide +kernel
theorem dK_secretLength_18 : decode c_K_secretLength 18 = .ok (.getfield 40, 3) := by decide +kernel
theorem dK_secretLength_21 : decode c_K_secretLength 21 = .ok (.iload_n 1, 1) := by decide +kernel
theorem dK_secretLength_22 : decode c_K_secretLength 22 = .ok (.iconst 3, 1) := by decide +kernel
theorem dK_secretLength_23 : decode c_K_secretLength 23 = .ok (.isub, 1) := by decide +kernel
theorem dK_secretLength_24 : decode c_K_secretLength 24 = .ok (.aaload, 1) := by decide +kernel
theorem dK_secretLength_25 : decode c_K_secretLength 25 = .ok (.getfield 248, 3) := by decide +kernel
theorem dK_secretLength_28 : decode c_K_secretLength 28 = .ok (.ireturn, 1) := by decide +kernel
abbrev c_K_seedLength : ByteArray := prog_1_method_20_code
abbrev y_K_seedLength : MethodName := ⟨"LatticeKeys", "seedLength", "(I)I"⟩
abbrev w_K_seedLength : List Cond := Cond.code y_K_seedLength c_K_seedLength 1 (some .int) :: WG
theorem dK_seedLength_0 : decode c_K_seedLength 0 = .ok (.iload_n 0, 1) := by decide +kernel
theorem dK_seedLength_1 : decode c_K_seedLength 1 = .ok (.iconst 3, 1) := by decide +kernel
theorem dK_seedLength_2 : decode c_K_seedLength 2 = .ok (.if_icmp .ge 8, 3) := by decide +kernel
theorem dK_seedLength_5 : decode c_K_seedLength 5 = .ok (.bipush 64, 2) := by decide +kernel
theorem dK_seedLength_7 : decode c_K_seedLength 7 = .ok (.goto 5, 3) := by decide +kernel
theorem dK_seedLength_10 : decode c_K_seedLength 10 = .ok (.bipush 32, 2) := by decide +kernel
theorem dK_seedLength_12 : decode c_K_seedLength 12 = .ok (.ireturn, 1) := by decide +kernel
abbrev c_K_isLoadable : ByteArray := prog_1_method_23_code
abbrev y_K_isLoadable : MethodName := ⟨"LatticeKeys", "isLoadable", "(IZ)Z"⟩
abbrev w_K_isLoadable : List Cond := Cond.code y_K_isLoadable c_K_isLoadable 3 (some .boolean) :: WG
theorem dK_isLoadable_0 : decode c_K_isLoadable 0 = .ok (.iload_n 1, 1) := by decide +kernel
theorem dK_isLoadable_1 : decode c_K_isLoadable 1 = .ok (.invokestatic 95, 3) := by decide +kernel
theorem dK_isLoadable_4 : decode c_K_isLoadable 4 = .ok (.ifCond .eq 12, 3) := by decide +kernel
theorem dK_isLoadable_7 : decode c_K_isLoadable 7 = .ok (.iload_n 2, 1) := by decide +kernel
theorem dK_isLoadable_8 : decode c_K_isLoadable 8 = .ok (.ifCond .eq 10, 3) := by decide +kernel
theorem dK_isLoadable_11 : decode c_K_isLoadable 11 = .ok (.iload_n 1, 1) := by decide +kernel
theorem dK_isLoadable_12 : decode c_K_isLoadable 12 = .ok (.iconst 3, 1) := by decide +kernel
theorem dK_isLoadable_13 : decode c_K_isLoadable 13 = .ok (.if_icmp .lt 5, 3) := by decide +kernel
theorem dK_isLoadable_16 : decode c_K_isLoadable 16 = .ok (.iconst 0, 1) := by decide +kernel
theorem dK_isLoadable_17 : decode c_K_isLoadable 17 = .ok (.ireturn, 1) := by decide +kernel
theorem dK_isLoadable_18 : decode c_K_isLoadable 18 = .ok (.aload_n 0, 1) := by decide +kernel
theorem dK_isLoadable_19 : decode c_K_isLoadable 19 = .ok (.getfield 13, 3) := by decide +kernel
theorem dK_isLoadable_22 : decode c_K_isLoadable 22 = .ok (.iload_n 2, 1) := by decide +kernel
theorem dK_isLoadable_23 : decode c_K_isLoadable 23 = .ok (.ifCond .eq 11, 3) := by decide +kernel
theorem dK_isLoadable_26 : decode c_K_isLoadable 26 = .ok (.aload_n 0, 1) := by decide +kernel
theorem dK_isLoadable_27 : decode c_K_isLoadable 27 = .ok (.iload_n 1, 1) := by decide +kernel
theorem dK_isLoadable_28 : decode c_K_isLoadable 28 = .ok (.invokevirtual 110, 3) := by decide +kernel
theorem dK_isLoadable_31 : decode c_K_isLoadable 31 = .ok (.goto 8, 3) := by decide +kernel
theorem dK_isLoadable_34 : decode c_K_isLoadable 34 = .ok (.aload_n 0, 1) := by decide +kernel
theorem dK_isLoadable_35 : decode c_K_isLoadable 35 = .ok (.iload_n 1, 1) := by decide +kernel
theorem dK_isLoadable_36 : decode c_K_isLoadable 36 = .ok (.invokevirtual 107, 3) := by decide +kernel
theorem dK_isLoadable_39 : decode c_K_isLoadable 39 = .ok (.if_icmp .ne 7, 3) := by decide +kernel
theorem dK_isLoadable_42 : decode c_K_isLoadable 42 = .ok (.iconst 1, 1) := by decide +kernel
theorem dK_isLoadable_43 : decode c_K_isLoadable 43 = .ok (.goto 4, 3) := by decide +kernel
theorem dK_isLoadable_46 : decode c_K_isLoadable 46 = .ok (.iconst 0, 1) := by decide +kernel
theorem dK_isLoadable_47 : decode c_K_isLoadable 47 = .ok (.ireturn, 1) := by decide +kernel
abbrev c_K_isSound : ByteArray := prog_1_method_24_code
abbrev y_K_isSound : MethodName := ⟨"LatticeKeys", "isSound", "(LLatticeKeys$KemSet;Z)Z"⟩
abbrev w_K_isSound : List Cond := Cond.code y_K_isSound c_K_isSound 3 (some .boolean) :: WG
theorem dK_isSound_0 : decode c_K_isSound 0 = .ok (.iload_n 2, 1) := by decide +kernel
theorem dK_isSound_1 : decode c_K_isSound 1 = .ok (.ifCond .eq 18, 3) := by decide +kernel
theorem dK_isSound_4 : decode c_K_isSound 4 = .ok (.aload_n 0, 1) := by decide +kernel
theorem dK_isSound_5 : decode c_K_isSound 5 = .ok (.getfield 54, 3) := by decide +kernel
theorem dK_isSound_8 : decode c_K_isSound 8 = .ok (.aload_n 1, 1) := by decide +kernel
theorem dK_isSound_9 : decode c_K_isSound 9 = .ok (.aload_n 0, 1) := by decide +kernel
theorem dK_isSound_10 : decode c_K_isSound 10 = .ok (.getfield 9, 3) := by decide +kernel
theorem dK_isSound_13 : decode c_K_isSound 13 = .ok (.invokevirtual 249, 3) := by decide +kernel
theorem dK_isSound_16 : decode c_K_isSound 16 = .ok (.goto 15, 3) := by decide +kernel
theorem dK_isSound_19 : decode c_K_isSound 19 = .ok (.aload_n 0, 1) := by decide +kernel
theorem dK_isSound_20 : decode c_K_isSound 20 = .ok (.getfield 54, 3) := by decide +kernel
theorem dK_isSound_23 : decode c_K_isSound 23 = .ok (.aload_n 1, 1) := by decide +kernel
theorem dK_isSound_24 : decode c_K_isSound 24 = .ok (.aload_n 0, 1) := by decide +kernel
theorem dK_isSound_25 : decode c_K_isSound 25 = .ok (.getfield 9, 3) := by decide +kernel
theorem dK_isSound_28 : decode c_K_isSound 28 = .ok (.invokevirtual 253, 3) := by decide +kernel
theorem dK_isSound_31 : decode c_K_isSound 31 = .ok (.ireturn, 1) := by decide +kernel
abbrev c_K_keep : ByteArray := prog_1_method_26_code
abbrev y_K_keep : MethodName := ⟨"LatticeKeys", "keep", "(LLatticeKeys$KeyPair;)I"⟩
abbrev w_K_keep : List Cond := Cond.code y_K_keep c_K_keep 2 (some .int) :: WG
theorem dK_keep_0 : decode c_K_keep 0 = .ok (.aload_n 0, 1) := by decide +kernel
theorem dK_keep_1 : decode c_K_keep 1 = .ok (.getfield 25, 3) := by decide +kernel
theorem dK_keep_4 : decode c_K_keep 4 = .ok (.aload_n 0, 1) := by decide +kernel
theorem dK_keep_5 : decode c_K_keep 5 = .ok (.getfield 29, 3) := by decide +kernel
theorem dK_keep_8 : decode c_K_keep 8 = .ok (.aload_n 1, 1) := by decide +kernel
theorem dK_keep_9 : decode c_K_keep 9 = .ok (.aastore, 1) := by decide +kernel
theorem dK_keep_10 : decode c_K_keep 10 = .ok (.aload_n 0, 1) := by decide +kernel
theorem dK_keep_11 : decode c_K_keep 11 = .ok (.dup, 1) := by decide +kernel
theorem dK_keep_12 : decode c_K_keep 12 = .ok (.getfield 29, 3) := by decide +kernel
theorem dK_keep_15 : decode c_K_keep 15 = .ok (.iconst 1, 1) := by decide +kernel
theorem dK_keep_16 : decode c_K_keep 16 = .ok (.iadd, 1) := by decide +kernel
theorem dK_keep_17 : decode c_K_keep 17 = .ok (.putfield 29, 3) := by decide +kernel
theorem dK_keep_20 : decode c_K_keep 20 = .ok (.aload_n 0, 1) := by decide +kernel
theorem dK_keep_21 : decode c_K_keep 21 = .ok (.getfield 29, 3) := by decide +kernel
theorem dK_keep_24 : decode c_K_keep 24 = .ok (.iconst 1, 1) := by decide +kernel
theorem dK_keep_25 : decode c_K_keep 25 = .ok (.isub, 1) := by decide +kernel
theorem dK_keep_26 : decode c_K_keep 26 = .ok (.ireturn, 1) := by decide +kernel
abbrev c_K_find : ByteArray := prog_1_method_27_code
abbrev y_K_find : MethodName := ⟨"LatticeKeys", "find", "(I)LLatticeKeys$KeyPair;"⟩
abbrev w_K_find : List Cond := Cond.code y_K_find c_K_find 2 (Option.some (Jvm.ClassFile.FieldType.object "LatticeKeys$KeyPair")) :: WG
theorem dK_find_0 : decode c_K_find 0 = .ok (.iload_n 1, 1) := by decide +kernel
theorem dK_find_1 : decode c_K_find 1 = .ok (.ifCond .lt 11, 3) := by decide +kernel
theorem dK_find_4 : decode c_K_find 4 = .ok (.iload_n 1, 1) := by decide +kernel
theorem dK_find_5 : decode c_K_find 5 = .ok (.aload_n 0, 1) := by decide +kernel
theorem dK_find_6 : decode c_K_find 6 = .ok (.getfield 29, 3) := by decide +kernel
theorem dK_find_9 : decode c_K_find 9 = .ok (.if_icmp .lt 7, 3) := by decide +kernel
theorem dK_find_12 : decode c_K_find 12 = .ok (.aconst_null, 1) := by decide +kernel
theorem dK_find_13 : decode c_K_find 13 = .ok (.goto 9, 3) := by decide +kernel
theorem dK_find_16 : decode c_K_find 16 = .ok (.aload_n 0, 1) := by decide +kernel
theorem dK_find_17 : decode c_K_find 17 = .ok (.getfield 25, 3) := by decide +kernel
theorem dK_find_20 : decode c_K_find 20 = .ok (.iload_n 1, 1) := by decide +kernel
theorem dK_find_21 : decode c_K_find 21 = .ok (.aaload, 1) := by decide +kernel
theorem dK_find_22 : decode c_K_find 22 = .ok (.areturn, 1) := by decide +kernel
abbrev c_K_findKem : ByteArray := prog_1_method_28_code
abbrev y_K_findKem : MethodName := ⟨"LatticeKeys", "findKem", "(I)LLatticeKeys$KeyPair;"⟩
abbrev w_K_findKem : List Cond := Cond.code y_K_findKem c_K_findKem 3 (Option.some (Jvm.ClassFile.FieldType.object "LatticeKeys$KeyPair")) :: WG
theorem dK_findKem_0 : decode c_K_findKem 0 = .ok (.aload_n 0, 1) := by decide +kernel
theorem dK_findKem_1 : decode c_K_findKem 1 = .ok (.iload_n 1, 1) := by decide +kernel
theorem dK_findKem_2 : decode c_K_findKem 2 = .ok (.invokevirtual 163, 3) := by decide +kernel
theorem dK_findKem_5 : decode c_K_findKem 5 = .ok (.astore_n 2, 1) := by decide +kernel
theorem dK_findKem_6 : decode c_K_findKem 6 = .ok (.aload_n 2, 1) := by decide +kernel
theorem dK_findKem_7 : decode c_K_findKem 7 = .ok (.ifnull 11, 3) := by decide +kernel
theorem dK_findKem_10 : decode c_K_findKem 10 = .ok (.aload_n 2, 1) := by decide +kernel
theorem dK_findKem_11 : decode c_K_findKem 11 = .ok (.getfield 168, 3) := by decide +kernel
theorem dK_findKem_14 : decode c_K_findKem 14 = .ok (.iconst 3, 1) := by decide +kernel
theorem dK_findKem_15 : decode c_K_findKem 15 = .ok (.if_icmp .lt 7, 3) := by decide +kernel
theorem dK_findKem_18 : decode c_K_findKem 18 = .ok (.aconst_null, 1) := by decide +kernel
theorem dK_findKem_19 : decode c_K_findKem 19 = .ok (.goto 4, 3) := by decide +kernel
theorem dK_findKem_22 : decode c_K_findKem 22 = .ok (.aload_n 2, 1) := by decide +kernel
theorem dK_findKem_23 : decode c_K_findKem 23 = .ok (.areturn, 1) := by decide +kernel
abbrev c_K_findDsa : ByteArray := prog_1_method_29_code
abbrev y_K_findDsa : MethodName := ⟨"LatticeKeys", "findDsa", "(I)LLatticeKeys$KeyPair;"⟩
abbrev w_K_findDsa : List Cond := Cond.code y_K_findDsa c_K_findDsa 3 (Option.some (Jvm.ClassFile.FieldType.object "LatticeKeys$KeyPair")) :: WG
theorem dK_findDsa_0 : decode c_K_findDsa 0 = .ok (.aload_n 0, 1) := by decide +kernel
theorem dK_findDsa_1 : decode c_K_findDsa 1 = .ok (.iload_n 1, 1) := by decide +kernel
theorem dK_findDsa_2 : decode c_K_findDsa 2 = .ok (.invokevirtual 163, 3) := by decide +kernel
theorem dK_findDsa_5 : decode c_K_findDsa 5 = .ok (.astore_n 2, 1) := by decide +kernel
theorem dK_findDsa_6 : decode c_K_findDsa 6 = .ok (.aload_n 2, 1) := by decide +kernel
theorem dK_findDsa_7 : decode c_K_findDsa 7 = .ok (.ifnull 11, 3) := by decide +kernel
theorem dK_findDsa_10 : decode c_K_findDsa 10 = .ok (.aload_n 2, 1) := by decide +kernel
theorem dK_findDsa_11 : decode c_K_findDsa 11 = .ok (.getfield 168, 3) := by decide +kernel
theorem dK_findDsa_14 : decode c_K_findDsa 14 = .ok (.iconst 3, 1) := by decide +kernel
theorem dK_findDsa_15 : decode c_K_findDsa 15 = .ok (.if_icmp .ge 7, 3) := by decide +kernel
theorem dK_findDsa_18 : decode c_K_findDsa 18 = .ok (.aconst_null, 1) := by decide +kernel
theorem dK_findDsa_19 : decode c_K_findDsa 19 = .ok (.goto 4, 3) := by decide +kernel
theorem dK_findDsa_22 : decode c_K_findDsa 22 = .ok (.aload_n 2, 1) := by decide +kernel
theorem dK_findDsa_23 : decode c_K_findDsa 23 = .ok (.areturn, 1) := by decide +kernel
abbrev c_K_partOf : ByteArray := prog_1_method_30_code
abbrev y_K_partOf : MethodName := ⟨"LatticeKeys", "partOf", "(IZ)[B"⟩
abbrev w_K_partOf : List Cond := Cond.code y_K_partOf c_K_partOf 4 (Option.some (Jvm.ClassFile.FieldType.array Jvm.ClassFile.FieldType.byte)) :: WG
theorem dK_partOf_0 : decode c_K_partOf 0 = .ok (.aload_n 0, 1) := by decide +kernel
theorem dK_partOf_1 : decode c_K_partOf 1 = .ok (.iload_n 1, 1) := by decide +kernel
theorem dK_partOf_2 : decode c_K_partOf 2 = .ok (.invokevirtual 163, 3) := by decide +kernel
theorem dK_partOf_5 : decode c_K_partOf 5 = .ok (.astore_n 3, 1) := by decide +kernel
theorem dK_partOf_6 : decode c_K_partOf 6 = .ok (.aload_n 3, 1) := by decide +kernel
theorem dK_partOf_7 : decode c_K_partOf 7 = .ok (.ifnonnull 5, 3) := by decide +kernel
theorem dK_partOf_10 : decode c_K_partOf 10 = .ok (.aconst_null, 1) := by decide +kernel
theorem dK_partOf_11 : decode c_K_partOf 11 = .ok (.areturn, 1) := by decide +kernel
theorem dK_partOf_12 : decode c_K_partOf 12 = .ok (.iload_n 2, 1) := by decide +kernel
theorem dK_partOf_13 : decode c_K_partOf 13 = .ok (.ifCond .eq 10, 3) := by decide +kernel
theorem dK_partOf_16 : decode c_K_partOf 16 = .ok (.aload_n 3, 1) := by decide +kernel
theorem dK_partOf_17 : decode c_K_partOf 17 = .ok (.getfield 174, 3) := by decide +kernel
theorem dK_partOf_20 : decode c_K_partOf 20 = .ok (.goto 7, 3) := by decide +kernel
theorem dK_partOf_23 : decode c_K_partOf 23 = .ok (.aload_n 3, 1) := by decide +kernel
theorem dK_partOf_24 : decode c_K_partOf 24 = .ok (.getfield 171, 3) := by decide +kernel
theorem dK_partOf_27 : decode c_K_partOf 27 = .ok (.areturn, 1) := by decide +kernel
abbrev c_K_holdsContext : ByteArray := prog_1_method_31_code
abbrev y_K_holdsContext : MethodName := ⟨"LatticeKeys", "holdsContext", "(II)Z"⟩
abbrev w_K_holdsContext : List Cond := Cond.code y_K_holdsContext c_K_holdsContext 3 (some .boolean) :: WG
theorem dK_holdsContext_0 : decode c_K_holdsContext 0 = .ok (.iload_n 2, 1) := by decide +kernel
theorem dK_holdsContext_1 : decode c_K_holdsContext 1 = .ok (.ifCond .lt 24, 3) := by decide +kernel
theorem dK_holdsContext_4 : decode c_K_holdsContext 4 = .ok (.iload_n 2, 1) := by decide +kernel
theorem dK_holdsContext_5 : decode c_K_holdsContext 5 = .ok (.sipush 255, 3) := by decide +kernel
theorem dK_holdsContext_8 : decode c_K_holdsContext 8 = .ok (.if_icmp .gt 17, 3) := by decide +kernel
theorem dK_holdsContext_11 : decode c_K_holdsContext 11 = .ok (.aload_n 0, 1) := by decide +kernel
theorem dK_holdsContext_12 : decode c_K_holdsContext 12 = .ok (.getfield 13, 3) := by decide +kernel
theorem dK_holdsContext_15 : decode c_K_holdsContext 15 = .ok (.iload_n 1, 1) := by decide +kernel
theorem dK_holdsContext_16 : decode c_K_holdsContext 16 = .ok (.iload_n 2, 1) := by decide +kernel
theorem dK_holdsContext_17 : decode c_K_holdsContext 17 = .ok (.iadd, 1) := by decide +kernel
theorem dK_holdsContext_18 : decode c_K_holdsContext 18 = .ok (.if_icmp .lt 7, 3) := by decide +kernel
theorem dK_holdsContext_21 : decode c_K_holdsContext 21 = .ok (.iconst 1, 1) := by decide +kernel
theorem dK_holdsContext_22 : decode c_K_holdsContext 22 = .ok (.goto 4, 3) := by decide +kernel
theorem dK_holdsContext_25 : decode c_K_holdsContext 25 = .ok (.iconst 0, 1) := by decide +kernel
theorem dK_holdsContext_26 : decode c_K_holdsContext 26 = .ok (.ireturn, 1) := by decide +kernel
abbrev c_K_secretFromTape : ByteArray := prog_1_method_25_code
abbrev y_K_secretFromTape : MethodName := ⟨"LatticeKeys", "secretFromTape", "(I)LLatticeKeys$KeyPair;"⟩
abbrev w_K_secretFromTape : List Cond := Cond.code y_K_secretFromTape c_K_secretFromTape 4 (Option.some (Jvm.ClassFile.FieldType.object "LatticeKeys$KeyPair")) :: WG
theorem dK_secretFromTape_0 : decode c_K_secretFromTape 0 = .ok (.aload_n 0, 1) := by decide +kernel
theorem dK_secretFromTape_1 : decode c_K_secretFromTape 1 = .ok (.getfield 34, 3) := by decide +kernel
theorem dK_secretFromTape_4 : decode c_K_secretFromTape 4 = .ok (.iload_n 1, 1) := by decide +kernel
theorem dK_secretFromTape_5 : decode c_K_secretFromTape 5 = .ok (.aaload, 1) := by decide +kernel
theorem dK_secretFromTape_6 : decode c_K_secretFromTape 6 = .ok (.getfield 256, 3) := by decide +kernel
theorem dK_secretFromTape_9 : decode c_K_secretFromTape 9 = .ok (.istore_n 2, 1) := by decide +kernel
theorem dK_secretFromTape_10 : decode c_K_secretFromTape 10 = .ok (.aload_n 0, 1) := by decide +kernel
theorem dK_secretFromTape_11 : decode c_K_secretFromTape 11 = .ok (.getfield 9, 3) := by decide +kernel
theorem dK_secretFromTape_14 : decode c_K_secretFromTape 14 = .ok (.iload_n 2, 1) := by decide +kernel
theorem dK_secretFromTape_15 : decode c_K_secretFromTape 15 = .ok (.iload_n 2, 1) := by decide +kernel
theorem dK_secretFromTape_16 : decode c_K_secretFromTape 16 = .ok (.aload_n 0, 1) := by decide +kernel
theorem dK_secretFromTape_17 : decode c_K_secretFromTape 17 = .ok (.iload_n 1, 1) := by decide +kernel
theorem dK_secretFromTape_18 : decode c_K_secretFromTape 18 = .ok (.invokevirtual 107, 3) := by decide +kernel
theorem dK_secretFromTape_21 : decode c_K_secretFromTape 21 = .ok (.iadd, 1) := by decide +kernel
theorem dK_secretFromTape_22 : decode c_K_secretFromTape 22 = .ok (.invokestatic 259, 3) := by decide +kernel
theorem dK_secretFromTape_25 : decode c_K_secretFromTape 25 = .ok (.astore_n 3, 1) := by decide +kernel
theorem dK_secretFromTape_26 : decode c_K_secretFromTape 26 = .ok (.new 23, 3) := by decide +kernel
theorem dK_secretFromTape_29 : decode c_K_secretFromTape 29 = .ok (.dup, 1) := by decide +kernel
theorem dK_secretFromTape_30 : decode c_K_secretFromTape 30 = .ok (.iload_n 1, 1) := by decide +kernel
theorem dK_secretFromTape_31 : decode c_K_secretFromTape 31 = .ok (.aload_n 3, 1) := by decide +kernel
theorem dK_secretFromTape_32 : decode c_K_secretFromTape 32 = .ok (.aload_n 0, 1) := by decide +kernel
theorem dK_secretFromTape_33 : decode c_K_secretFromTape 33 = .ok (.getfield 9, 3) := by decide +kernel
theorem dK_secretFromTape_36 : decode c_K_secretFromTape 36 = .ok (.aload_n 0, 1) := by decide +kernel
theorem dK_secretFromTape_37 : decode c_K_secretFromTape 37 = .ok (.getfield 13, 3) := by decide +kernel
theorem dK_secretFromTape_40 : decode c_K_secretFromTape 40 = .ok (.invokestatic 146, 3) := by decide +kernel
theorem dK_secretFromTape_43 : decode c_K_secretFromTape 43 = .ok (.invokespecial 120, 3) := by decide +kernel
theorem dK_secretFromTape_46 : decode c_K_secretFromTape 46 = .ok (.areturn, 1) := by decide +kernel
set_option maxHeartbeats 4000000 in
set_option maxRecDepth 100000 in
theorem t_AR_copyOf (l : Launch) (g : Gd) (sz : Nat) (T : Ty) (pl : va_W) (hO : okx g T [] pl) (hU : uni T) (f n nl : Nat) (k_f : T f = some (1, n)) (h1 : nl < n) (h2 : n < 65536) (h3 : nl ≤ 4896)  : Met l y_AR_copyOf w_AR_copyOf ({ frames := 1, cells := 1, slots := 4896, locals := 60 } : Room) (va_Pc [.ref f, .int (nI nl)] (pr (en g) g.1 vcl sz ([] ++ pl))) (va_Qq (fun (r : Option Nat) (u : (Ty) × va_W) => (ext T u.1 ∧ uni u.1 ∧ ∃ q, r = some q ∧ u.1 q = some (1, nl)) ∧ okx g u.1 [] u.2) (po g.1 vcl (va_A ([] ++ pl) sz) (fun (u : (Ty) × va_W) => [] ++ u.2)) (va_A ([] ++ pl) sz)) 1 4896 (va_A ([] ++ pl) sz) := by
  refine mc_entry (cc := c_AR_copyOf) (maxL := 3) (ret := (Option.some (Jvm.ClassFile.FieldType.array Jvm.ClassFile.FieldType.byte))) (by decide) rfl (Nat.le_of_ble_eq_true rfl) ?_
  intro p e s m args below meth c ls F hr hlk hnm hsz hP hD hE hA hl
  obtain ⟨hx, hb, hml, hown, hts⟩ := id F
  have hK := hE.1
  generalize va_A ([] ++ pl) sz = A at hD hE hA ⊢
  have hXT : ext T T := ext_rf
  have hS : va_S A s.heap s.heap [] := va_S.rf
  have hl : lv_has ls 3 [(0, .ref f), (1, .int (nI nl))] := hl
  refine lv_iload_n hx hb dAR_copyOf_0 rfl (lv_at hl 1 rfl) ?_
  refine lv_aload_n hx hb dAR_copyOf_1 rfl (lv_at hl 0 rfl) ?_
  refine ty_alen1 hx hb hK hO k_f (nxg clo_nil k_f rfl) hP dAR_copyOf_2 ?_
  refine mi_ne (tgt := 14) hx hb dAR_copyOf_3 (by decide) (by omega) (by omega) (fun h21 => ?_) (fun h21 => absurd h21 (by omega))
  refine lv_iload_n hx hb dAR_copyOf_14 rfl (lv_at hl 1 rfl) ?_
  refine ma_newa (ws := [] ++ pl) (atype := .byte) hx hb (hts _ (wg_t kw_72)) rfl hK hP hD hS hA 1 rfl (N' := nl) (a0 := (nl, .inl (fun _ => 0))) (fun _ => rfl) (nI_pos (by omega)) (nI_clamp (by omega)) (by show (nl) * 1 ≤ 536870912; omega) (Nat.le_of_ble_eq_true rfl) (by show 0 + (nl) ≤ 4896; omega) dAR_copyOf_15 (fun q21 H hP hD hS => ?_)
  refine W.widen (k := 1) (n := 4896) (by omega) (by omega) ?_
  obtain ⟨T, pl, hxt21, hU, kr21, hO, hP, hD, hnk21⟩ := absorb (X := []) (1, nl) hP hD hO hU (Or.inl rfl) (fun _ _ _ => ⟨_, rfl, byt_0⟩)
  have k_f := hxt21 _ _ k_f
  have hXT := ext_tr hXT hxt21
  have hP : va_P g.1 vcl ([] ++ pl) _ := hP
  have hD : va_D _ ([] ++ pl) := hD
  refine lv_astore_n (lv' := [(2, .ref q21), (0, .ref f), (1, .int (nI nl))]) hx hb dAR_copyOf_17 rfl hl (by decide) rfl (fun ls hl => ?_)
  refine lv_aload_n hx hb dAR_copyOf_18 rfl (lv_at hl 1 rfl) ?_
  refine lv_iconst (v := nI 0) hx hb dAR_copyOf_19 (by decide) ?_
  refine lv_aload_n hx hb dAR_copyOf_20 rfl (lv_at hl 0 rfl) ?_
  refine lv_iconst (v := nI 0) hx hb dAR_copyOf_21 (by decide) ?_
  refine lv_aload_n hx hb dAR_copyOf_22 rfl (lv_at hl 1 rfl) ?_
  refine ty_alen1 hx hb hK hO k_f (nxg clo_nil k_f rfl) hP dAR_copyOf_23 ?_
  refine lv_iload_n hx hb dAR_copyOf_24 rfl (lv_at hl 2 rfl) ?_
  refine va_mmin (own := "java/util/Arrays") (index := 304) hx hb (hml.trans hl.1.symm) hown (hts _ (wg_t kw_889)) (hts _ (wg_t kw_890)) (hts _ (wg_t kw_31)) (hts _ (wg_t kw_891)) (Nat.le_of_ble_eq_true rfl) (Nat.le_of_ble_eq_true rfl) (Nat.le_of_ble_eq_true rfl) (Nat.le_of_ble_eq_true rfl) dAR_copyOf_25 ?_
  refine mi_as (mi_min n nl (by omega) (by omega)) ?_
  refine ty_copyb11 hx hb (hml.trans hl.1.symm) hown (hts _ (wg_t kw_892)) (hts _ (wg_t kw_526)) (hts _ (wg_t kw_525)) (hts _ (wg_t kw_19)) hK hO k_f (nxg clo_nil k_f rfl) kr21 (nxg clo_nil kr21 rfl) hP hD hS (sp := 0) (dp := 0) (n := (min n nl)) (by omega) (by omega) (by omega) (by decide) (Nat.le_of_ble_eq_true rfl) dAR_copyOf_28 (fun pl H locs hO hP hD hS => ?_)
  refine lv_aload_n hx hb dAR_copyOf_31 rfl (lv_at hl 0 rfl) ?_
  exact mp_qret (v := (some q21)) hx hb hr (Or.inr ⟨_, rfl⟩) hlk hP hD hS (T, pl) ⟨⟨hXT, hU, _, rfl, kr21⟩, hO⟩ [] rfl rfl rfl (by omega) (by omega) dAR_copyOf_32
set_option maxHeartbeats 4000000 in
set_option maxRecDepth 100000 in
theorem t_AR_checkLength (l : Launch) (g : Gd) (sz : Nat) (T : Ty) (pl : va_W) (hO : okx g T [] pl) (hU : uni T) (v v2 : Nat) (h1 : v ≤ v2) (h2 : v2 < 65536)  : Met l y_AR_checkLength w_AR_checkLength ({ frames := 0, cells := 0, slots := 0, locals := 0 } : Room) (va_Pc [.int (nI v), .int (nI v2)] (pr (en g) g.1 vcl sz ([] ++ pl))) (va_Qv (fun (u : va_W) => (True) ∧ okx g T [] u) (po g.1 vcl (va_A ([] ++ pl) sz) (fun (u : va_W) => [] ++ u)) (va_A ([] ++ pl) sz)) 0 0 (va_A ([] ++ pl) sz) := by
  refine mc_entry (cc := c_AR_checkLength) (maxL := 2) (ret := none) (by decide) rfl (Nat.le_of_ble_eq_true rfl) ?_
  intro p e s m args below meth c ls F hr hlk hnm hsz hP hD hE hA hl
  obtain ⟨hx, hb, hml, hown, hts⟩ := id F
  have hK := hE.1
  generalize va_A ([] ++ pl) sz = A at hD hE hA ⊢
  have hS : va_S A s.heap s.heap [] := va_S.rf
  have hl : lv_has ls 2 [(0, .int (nI v)), (1, .int (nI v2))] := hl
  refine lv_iload_n hx hb dAR_checkLength_0 rfl (lv_at hl 1 rfl) ?_
  refine lv_iload_n hx hb dAR_checkLength_1 rfl (lv_at hl 0 rfl) ?_
  refine mi_ge (tgt := 37) hx hb dAR_checkLength_2 (by decide) (by omega) (by omega) (fun h21 => ?_) (fun h21 => absurd h21 (by omega))
  exact mp_vret hx hb hr hlk hP hD hS pl ⟨trivial, hO⟩ [] rfl rfl rfl (by omega) (by omega) dAR_checkLength_37
set_option maxHeartbeats 4000000 in
set_option maxRecDepth 100000 in
theorem t_AR_copyOfRangeByte (l : Launch) (g : Gd) (sz : Nat) (T : Ty) (pl : va_W) (hO : okx g T [] pl) (hU : uni T) (f n fr to : Nat) (k_f : T f = some (1, n)) (h0_ : fr ≤ to) (h1 : to ≤ n) (h2 : n < 65536) (h3 : to - fr ≤ 2592)  : Met l y_AR_copyOfRangeByte w_AR_copyOfRangeByte ({ frames := 1, cells := 1, slots := 2592, locals := 60 } : Room) (va_Pc [.ref f, .int (nI fr), .int (nI to)] (pr (en g) g.1 vcl sz ([] ++ pl))) (va_Qq (fun (r : Option Nat) (u : (Ty) × va_W) => (ext T u.1 ∧ uni u.1 ∧ ∃ q, r = some q ∧ u.1 q = some (1, (to - fr))) ∧ okx g u.1 [] u.2) (po g.1 vcl (va_A ([] ++ pl) sz) (fun (u : (Ty) × va_W) => [] ++ u.2)) (va_A ([] ++ pl) sz)) 1 2592 (va_A ([] ++ pl) sz) := by
  refine mc_entry (cc := c_AR_copyOfRangeByte) (maxL := 5) (ret := (Option.some (Jvm.ClassFile.FieldType.array Jvm.ClassFile.FieldType.byte))) (by decide) rfl (Nat.le_of_ble_eq_true rfl) ?_
  intro p e s m args below meth c ls F hr hlk hnm hsz hP hD hE hA hl
  obtain ⟨hx, hb, hml, hown, hts⟩ := id F
  have hK := hE.1
  generalize va_A ([] ++ pl) sz = A at hD hE hA ⊢
  have hXT : ext T T := ext_rf
  have hS : va_S A s.heap s.heap [] := va_S.rf
  have hl : lv_has ls 5 [(0, .ref f), (1, .int (nI fr)), (2, .int (nI to))] := hl
  refine lv_iload_n hx hb dAR_copyOfRangeByte_0 rfl (lv_at hl 1 rfl) ?_
  refine lv_iload_n hx hb dAR_copyOfRangeByte_1 rfl (lv_at hl 2 rfl) ?_
  refine mp_v (cx := []) (wr := []) hP hD hS hA [] [] rfl rfl rfl (by decide) (va_runS (As := [.int (nI fr), .int (nI to)]) (rest := []) F (t_AR_checkLength l g _ T  pl hO hU  fr to (by omega) (by omega)) (va_cwS 2 hts (wg_app (wg_c kw_815 (wg_c kw_816 (wg_c kw_21 wg_n))) kw_817) rfl rfl rfl (by decide +kernel) ⟨by decide, by decide⟩) (pp_S (en_ok g) hP hD hS hA hE [] rfl rfl) rfl rfl hl.1 rfl (lv_room (Nat.le_of_ble_eq_true rfl)) dAR_copyOfRangeByte_2 ⟨Nat.le_of_ble_eq_true rfl, Nat.le_of_ble_eq_true rfl⟩) (fun  pl H locs hu21 hP hD hS => ?_)
  obtain ⟨hq21, hO⟩ := hu21
  have hP : va_P g.1 vcl ([] ++ pl) _ := hP
  have hD : va_D _ ([] ++ pl) := hD
  refine W.widen (k := 0) (n := 0) (by omega) (by omega) ?_
  refine lv_iload_n hx hb dAR_copyOfRangeByte_5 rfl (lv_at hl 2 rfl) ?_
  refine lv_iload_n hx hb dAR_copyOfRangeByte_6 rfl (lv_at hl 1 rfl) ?_
  refine mi_isub hx hb dAR_copyOfRangeByte_7 (by omega) ?_
  refine lv_istore_n (lv' := [(3, .int (nI (to - fr))), (0, .ref f), (1, .int (nI fr)), (2, .int (nI to))]) hx hb dAR_copyOfRangeByte_8 rfl hl (by decide) rfl (fun ls hl => ?_)
  refine lv_iload_n hx hb dAR_copyOfRangeByte_9 rfl (lv_at hl 0 rfl) ?_
  refine ma_newa (ws := [] ++ pl) (atype := .byte) hx hb (hts _ (wg_t kw_72)) rfl hK hP hD hS hA 1 rfl (N' := to - fr) (a0 := (to - fr, .inl (fun _ => 0))) (fun _ => rfl) (nI_pos (by omega)) (nI_clamp (by omega)) (by show (to - fr) * 1 ≤ 536870912; omega) (Nat.le_of_ble_eq_true rfl) (by show 0 + (to - fr) ≤ 2592; omega) dAR_copyOfRangeByte_10 (fun q21 H hP hD hS => ?_)
  refine W.widen (k := 1) (n := 2592) (by omega) (by omega) ?_
  obtain ⟨T, pl, hxt21, hU, kr21, hO, hP, hD, hnk21⟩ := absorb (X := []) (1, to - fr) hP hD hO hU (Or.inl rfl) (fun _ _ _ => ⟨_, rfl, byt_0⟩)
  have k_f := hxt21 _ _ k_f
  have hXT := ext_tr hXT hxt21
  have hP : va_P g.1 vcl ([] ++ pl) _ := hP
  have hD : va_D _ ([] ++ pl) := hD
  refine lv_astore (lv' := [(4, .ref q21), (3, .int (nI (to - fr))), (0, .ref f), (1, .int (nI fr)), (2, .int (nI to))]) hx hb dAR_copyOfRangeByte_12 hl (by decide) rfl (fun ls hl => ?_)
  refine lv_aload_n hx hb dAR_copyOfRangeByte_14 rfl (lv_at hl 2 rfl) ?_
  refine lv_iload_n hx hb dAR_copyOfRangeByte_15 rfl (lv_at hl 3 rfl) ?_
  refine lv_aload hx hb dAR_copyOfRangeByte_16 (lv_at hl 0 rfl) ?_
  refine lv_iconst (v := nI 0) hx hb dAR_copyOfRangeByte_18 (by decide) ?_
  refine lv_aload_n hx hb dAR_copyOfRangeByte_19 rfl (lv_at hl 2 rfl) ?_
  refine ty_alen1 hx hb hK hO k_f (nxg clo_nil k_f rfl) hP dAR_copyOfRangeByte_20 ?_
  refine lv_iload_n hx hb dAR_copyOfRangeByte_21 rfl (lv_at hl 3 rfl) ?_
  refine mi_isub hx hb dAR_copyOfRangeByte_22 (by omega) ?_
  refine lv_iload_n hx hb dAR_copyOfRangeByte_23 rfl (lv_at hl 1 rfl) ?_
  refine va_mmin (own := "java/util/Arrays") (index := 304) hx hb (hml.trans hl.1.symm) hown (hts _ (wg_t kw_889)) (hts _ (wg_t kw_890)) (hts _ (wg_t kw_31)) (hts _ (wg_t kw_891)) (Nat.le_of_ble_eq_true rfl) (Nat.le_of_ble_eq_true rfl) (Nat.le_of_ble_eq_true rfl) (Nat.le_of_ble_eq_true rfl) dAR_copyOfRangeByte_24 ?_
  refine mi_as (mi_min (n - fr) (to - fr) (by omega) (by omega)) ?_
  refine ty_copyb11 hx hb (hml.trans hl.1.symm) hown (hts _ (wg_t kw_892)) (hts _ (wg_t kw_526)) (hts _ (wg_t kw_525)) (hts _ (wg_t kw_19)) hK hO k_f (nxg clo_nil k_f rfl) kr21 (nxg clo_nil kr21 rfl) hP hD hS (sp := fr) (dp := 0) (n := (min (n - fr) (to - fr))) (by omega) (by omega) (by omega) (by decide) (Nat.le_of_ble_eq_true rfl) dAR_copyOfRangeByte_27 (fun pl H locs hO hP hD hS => ?_)
  refine lv_aload hx hb dAR_copyOfRangeByte_30 (lv_at hl 0 rfl) ?_
  exact mp_qret (v := (some q21)) hx hb hr (Or.inr ⟨_, rfl⟩) hlk hP hD hS (T, pl) ⟨⟨hXT, hU, _, rfl, kr21⟩, hO⟩ [] rfl rfl rfl (by omega) (by omega) dAR_copyOfRangeByte_32
set_option maxHeartbeats 4000000 in
set_option maxRecDepth 100000 in
theorem t_AR_copyOfRange (l : Launch) (g : Gd) (sz : Nat) (T : Ty) (pl : va_W) (hO : okx g T [] pl) (hU : uni T) (f n fr to : Nat) (k_f : T f = some (1, n)) (h9_ : 0 < fr) (h0_ : fr ≤ to) (h1 : to ≤ n) (h2 : n < 65536) (h3 : to - fr ≤ 2592)  : Met l y_AR_copyOfRange w_AR_copyOfRange ({ frames := 2, cells := 1, slots := 2592, locals := 84 } : Room) (va_Pc [.ref f, .int (nI fr), .int (nI to)] (pr (en g) g.1 vcl sz ([] ++ pl))) (va_Qq (fun (r : Option Nat) (u : (Ty) × va_W) => (ext T u.1 ∧ uni u.1 ∧ ∃ q, r = some q ∧ u.1 q = some (1, (to - fr))) ∧ okx g u.1 [] u.2) (po g.1 vcl (va_A ([] ++ pl) sz) (fun (u : (Ty) × va_W) => [] ++ u.2)) (va_A ([] ++ pl) sz)) 1 2592 (va_A ([] ++ pl) sz) := by
  refine mc_entry (cc := c_AR_copyOfRange) (maxL := 3) (ret := (Option.some (Jvm.ClassFile.FieldType.array Jvm.ClassFile.FieldType.byte))) (by decide) rfl (Nat.le_of_ble_eq_true rfl) ?_
  intro p e s m args below meth c ls F hr hlk hnm hsz hP hD hE hA hl
  obtain ⟨hx, hb, hml, hown, hts⟩ := id F
  have hK := hE.1
  generalize va_A ([] ++ pl) sz = A at hD hE hA ⊢
  have hXT : ext T T := ext_rf
  have hS : va_S A s.heap s.heap [] := va_S.rf
  have hl : lv_has ls 3 [(0, .ref f), (1, .int (nI fr)), (2, .int (nI to))] := hl
  refine lv_iload_n hx hb dAR_copyOfRange_0 rfl (lv_at hl 1 rfl) ?_
  refine lv_if_ne (tgt := 10) hx hb dAR_copyOfRange_1 (by decide) (fun h21 => ?_) (fun h21 => absurd h21 (nI_ne0 (by omega) (by omega)))
  refine lv_aload_n hx hb dAR_copyOfRange_10 rfl (lv_at hl 0 rfl) ?_
  refine lv_iload_n hx hb dAR_copyOfRange_11 rfl (lv_at hl 1 rfl) ?_
  refine lv_iload_n hx hb dAR_copyOfRange_12 rfl (lv_at hl 2 rfl) ?_
  refine mp_q (cx := []) (wr := []) hP hD hS hA [] [] rfl rfl rfl (by decide) (va_runS (As := [.ref f, .int (nI fr), .int (nI to)]) (rest := []) F (t_AR_copyOfRangeByte l g _ T  pl hO hU  f n fr to k_f (by omega) (by omega) (by omega) (by omega)) (va_cwS 3 hts (wg_app (wg_c kw_812 (wg_c kw_813 (wg_c kw_21 wg_n))) kw_814) rfl rfl rfl (by decide +kernel) ⟨by decide, by decide⟩) (pp_S (en_ok g) hP hD hS hA hE [] rfl rfl) rfl rfl hl.1 rfl (lv_room (Nat.le_of_ble_eq_true rfl)) dAR_copyOfRange_13 ⟨Nat.le_of_ble_eq_true rfl, Nat.le_of_ble_eq_true rfl⟩) (fun r21 u21 H locs hu21 hP hD hS => ?_)
  obtain ⟨T, pl⟩ := u21
  obtain ⟨hq21, hO⟩ := hu21
  have hP : va_P g.1 vcl ([] ++ pl) _ := hP
  have hD : va_D _ ([] ++ pl) := hD
  obtain ⟨hxt21, hU, q21, rfl, kr21⟩ := hq21
  have k_f := hxt21 _ _ k_f
  have hXT := ext_tr hXT hxt21
  refine W.widen (k := 1) (n := 2592) (by omega) (by omega) ?_
  exact mp_qret (v := (some q21)) hx hb hr (Or.inr ⟨_, rfl⟩) hlk hP hD hS (T, pl) ⟨⟨hXT, hU, _, rfl, kr21⟩, hO⟩ [] rfl rfl rfl (by omega) (by omega) dAR_copyOfRange_16
set_option maxHeartbeats 4000000 in
set_option maxRecDepth 100000 in
theorem t_KP_init17 (l : Launch) (g : Gd) (sz : Nat) (T : Ty) (pl : va_W) (hO : okx g T [] pl) (hU : uni T) (st : Int32) (h0 pb sc : Nat)  : Met l y_KP_init w_KP_init ({ frames := 1, cells := 0, slots := 0, locals := 40 } : Room) (va_Pc [.ref h0, .int st, .ref pb, .ref sc] (pr (en g) g.1 vcl sz ([(h0, .inr (13, [.int 0, .null, .null]))] ++ pl))) (va_Qv (fun (u : va_W) => (True) ∧ okx g T [] u) (po g.1 vcl (va_A ([(h0, .inr (13, [.int 0, .null, .null]))] ++ pl) sz) (fun (u : va_W) => [(h0, .inr (13, [.int st, .ref pb, .ref sc]))] ++ u)) (va_A ([(h0, .inr (13, [.int 0, .null, .null]))] ++ pl) sz)) 0 0 (va_A ([(h0, .inr (13, [.int 0, .null, .null]))] ++ pl) sz) := by
  refine mc_entry (cc := c_KP_init) (maxL := 4) (ret := none) (by decide) rfl (Nat.le_of_ble_eq_true rfl) ?_
  intro p e s m args below meth c ls F hr hlk hnm hsz hP hD hE hA hl
  obtain ⟨hx, hb, hml, hown, hts⟩ := id F
  have hK := hE.1
  generalize va_A ([(h0, .inr (13, [.int 0, .null, .null]))] ++ pl) sz = A at hD hE hA ⊢
  have hS : va_S A s.heap s.heap [] := va_S.rf
  have hl : lv_has ls 4 [(0, .ref h0), (1, .int st), (2, .ref pb), (3, .ref sc)] := hl
  refine lv_aload_n hx hb dKP_init_0 rfl (lv_at hl 0 rfl) ?_
  refine W.objInit hx hb hown (hts _ (wg_t kw_744)) (hts _ (wg_t kw_41)) (hts _ (wg_t kobj)) rfl (by rw [hml]; exact hl.1) rfl dKP_init_1 (Nat.le_of_ble_eq_true rfl) (Nat.le_of_ble_eq_true rfl) ?_
  refine W.eq (g2 := F0 m 4 ls []) rfl ?_
  refine lv_aload_n hx hb dKP_init_4 rfl (lv_at hl 0 rfl) ?_
  refine lv_iload_n hx hb dKP_init_5 rfl (lv_at hl 1 rfl) ?_
  refine va_putF (D := g.1) (ci := 13) (v := .int st) (ty := .int) (C := "LatticeKeys$KeyPair") (T := T_KP) (N := 3) hx hb hts (wg_ft i_KP) ty_KP k_KP n_KP hown hK hP hD hS 0 rfl rfl 0 (by decide) (hts _ (wg_t kw_745)) (fun _ h9 => h9) rfl hnm rfl (by decide +kernel) rfl rfl (Nat.le_of_ble_eq_true rfl) dKP_init_6 (fun H locs hP hD hS => ?_)
  have hP : va_P g.1 vcl ([(h0, .inr (13, [.int st, .null, .null]))] ++ pl) _ := hP
  have hD : va_D _ ([(h0, .inr (13, [.int st, .null, .null]))] ++ pl) := hD
  refine lv_aload_n hx hb dKP_init_9 rfl (lv_at hl 0 rfl) ?_
  refine lv_aload_n hx hb dKP_init_10 rfl (lv_at hl 2 rfl) ?_
  refine va_putF (D := g.1) (ci := 13) (v := .ref pb) (ty := .array .byte) (C := "LatticeKeys$KeyPair") (T := T_KP) (N := 3) hx hb hts (wg_ft i_KP) ty_KP k_KP n_KP hown hK hP hD hS 0 rfl rfl 1 (by decide) (hts _ (wg_t kw_747)) (fun _ h9 => h9) rfl hnm rfl (by decide +kernel) rfl rfl (Nat.le_of_ble_eq_true rfl) dKP_init_11 (fun H locs hP hD hS => ?_)
  have hP : va_P g.1 vcl ([(h0, .inr (13, [.int st, .ref pb, .null]))] ++ pl) _ := hP
  have hD : va_D _ ([(h0, .inr (13, [.int st, .ref pb, .null]))] ++ pl) := hD
  refine lv_aload_n hx hb dKP_init_14 rfl (lv_at hl 0 rfl) ?_
  refine lv_aload_n hx hb dKP_init_15 rfl (lv_at hl 3 rfl) ?_
  refine va_putF (D := g.1) (ci := 13) (v := .ref sc) (ty := .array .byte) (C := "LatticeKeys$KeyPair") (T := T_KP) (N := 3) hx hb hts (wg_ft i_KP) ty_KP k_KP n_KP hown hK hP hD hS 0 rfl rfl 2 (by decide) (hts _ (wg_t kw_750)) (fun _ h9 => h9) rfl hnm rfl (by decide +kernel) rfl rfl (Nat.le_of_ble_eq_true rfl) dKP_init_16 (fun H locs hP hD hS => ?_)
  have hP : va_P g.1 vcl ([(h0, .inr (13, [.int st, .ref pb, .ref sc]))] ++ pl) _ := hP
  have hD : va_D _ ([(h0, .inr (13, [.int st, .ref pb, .ref sc]))] ++ pl) := hD
  exact mp_vret hx hb hr hlk hP hD hS pl ⟨trivial, hO⟩ [0] rfl rfl rfl (by omega) (by omega) dKP_init_19
set_option maxHeartbeats 4000000 in
set_option maxRecDepth 100000 in
theorem t_KP_init16 (l : Launch) (g : Gd) (sz : Nat) (T : Ty) (pl : va_W) (hO : okx g T [] pl) (hU : uni T) (st : Int32) (h0 pb : Nat)  : Met l y_KP_init w_KP_init ({ frames := 1, cells := 0, slots := 0, locals := 40 } : Room) (va_Pc [.ref h0, .int st, .ref pb, .null] (pr (en g) g.1 vcl sz ([(h0, .inr (13, [.int 0, .null, .null]))] ++ pl))) (va_Qv (fun (u : va_W) => (True) ∧ okx g T [] u) (po g.1 vcl (va_A ([(h0, .inr (13, [.int 0, .null, .null]))] ++ pl) sz) (fun (u : va_W) => [(h0, .inr (13, [.int st, .ref pb, .null]))] ++ u)) (va_A ([(h0, .inr (13, [.int 0, .null, .null]))] ++ pl) sz)) 0 0 (va_A ([(h0, .inr (13, [.int 0, .null, .null]))] ++ pl) sz) := by
  refine mc_entry (cc := c_KP_init) (maxL := 4) (ret := none) (by decide) rfl (Nat.le_of_ble_eq_true rfl) ?_
  intro p e s m args below meth c ls F hr hlk hnm hsz hP hD hE hA hl
  obtain ⟨hx, hb, hml, hown, hts⟩ := id F
  have hK := hE.1
  generalize va_A ([(h0, .inr (13, [.int 0, .null, .null]))] ++ pl) sz = A at hD hE hA ⊢
  have hS : va_S A s.heap s.heap [] := va_S.rf
  have hl : lv_has ls 4 [(0, .ref h0), (1, .int st), (2, .ref pb), (3, .null)] := hl
  refine lv_aload_n hx hb dKP_init_0 rfl (lv_at hl 0 rfl) ?_
  refine W.objInit hx hb hown (hts _ (wg_t kw_744)) (hts _ (wg_t kw_41)) (hts _ (wg_t kobj)) rfl (by rw [hml]; exact hl.1) rfl dKP_init_1 (Nat.le_of_ble_eq_true rfl) (Nat.le_of_ble_eq_true rfl) ?_
  refine W.eq (g2 := F0 m 4 ls []) rfl ?_
  refine lv_aload_n hx hb dKP_init_4 rfl (lv_at hl 0 rfl) ?_
  refine lv_iload_n hx hb dKP_init_5 rfl (lv_at hl 1 rfl) ?_
  refine va_putF (D := g.1) (ci := 13) (v := .int st) (ty := .int) (C := "LatticeKeys$KeyPair") (T := T_KP) (N := 3) hx hb hts (wg_ft i_KP) ty_KP k_KP n_KP hown hK hP hD hS 0 rfl rfl 0 (by decide) (hts _ (wg_t kw_745)) (fun _ h9 => h9) rfl hnm rfl (by decide +kernel) rfl rfl (Nat.le_of_ble_eq_true rfl) dKP_init_6 (fun H locs hP hD hS => ?_)
  have hP : va_P g.1 vcl ([(h0, .inr (13, [.int st, .null, .null]))] ++ pl) _ := hP
  have hD : va_D _ ([(h0, .inr (13, [.int st, .null, .null]))] ++ pl) := hD
  refine lv_aload_n hx hb dKP_init_9 rfl (lv_at hl 0 rfl) ?_
  refine lv_aload_n hx hb dKP_init_10 rfl (lv_at hl 2 rfl) ?_
  refine va_putF (D := g.1) (ci := 13) (v := .ref pb) (ty := .array .byte) (C := "LatticeKeys$KeyPair") (T := T_KP) (N := 3) hx hb hts (wg_ft i_KP) ty_KP k_KP n_KP hown hK hP hD hS 0 rfl rfl 1 (by decide) (hts _ (wg_t kw_747)) (fun _ h9 => h9) rfl hnm rfl (by decide +kernel) rfl rfl (Nat.le_of_ble_eq_true rfl) dKP_init_11 (fun H locs hP hD hS => ?_)
  have hP : va_P g.1 vcl ([(h0, .inr (13, [.int st, .ref pb, .null]))] ++ pl) _ := hP
  have hD : va_D _ ([(h0, .inr (13, [.int st, .ref pb, .null]))] ++ pl) := hD
  refine lv_aload_n hx hb dKP_init_14 rfl (lv_at hl 0 rfl) ?_
  refine lv_aload_nN hx hb dKP_init_15 rfl (lv_at hl 3 rfl) ?_
  refine va_putF (D := g.1) (ci := 13) (v := .null) (ty := .array .byte) (C := "LatticeKeys$KeyPair") (T := T_KP) (N := 3) hx hb hts (wg_ft i_KP) ty_KP k_KP n_KP hown hK hP hD hS 0 rfl rfl 2 (by decide) (hts _ (wg_t kw_750)) (fun _ h9 => h9) rfl hnm rfl (by decide +kernel) rfl rfl (Nat.le_of_ble_eq_true rfl) dKP_init_16 (fun H locs hP hD hS => ?_)
  have hP : va_P g.1 vcl ([(h0, .inr (13, [.int st, .ref pb, .null]))] ++ pl) _ := hP
  have hD : va_D _ ([(h0, .inr (13, [.int st, .ref pb, .null]))] ++ pl) := hD
  exact mp_vret hx hb hr hlk hP hD hS pl ⟨trivial, hO⟩ [0] rfl rfl rfl (by omega) (by omega) dKP_init_19
set_option maxHeartbeats 4000000 in
set_option maxRecDepth 100000 in
theorem t_K_writeNumber (l : Launch) (g : Gd) (sz : Nat) (T : Ty) (pl : va_W) (hO : okx g T [] pl) (hU : uni T) (v : Int32) (h0 kt ka kp kks kds ksp kkm kda tl al pn : Nat) (k_kt : T kt = some (1, 16384)) (k_ka : T ka = some (1, 8192)) (k_kp : T kp = some (6, 0)) (k_kks : T kks = some (50, 0)) (k_kds : T kds = some (51, 0)) (k_ksp : T ksp = some (10, 0)) (k_kkm : T kkm = some (13, 0)) (k_kda : T kda = some (15, 0)) (hb : tl ≤ 16384 ∧ al ≤ 8192 ∧ pn ≤ 8) (h1 : tl + 4 ≤ 16384)  : Met l y_K_writeNumber w_K_writeNumber ({ frames := 0, cells := 0, slots := 0, locals := 0 } : Room) (va_Pc [.ref h0, .int v] (pr (en g) g.1 vcl sz ([(h0, .inr (0, [.ref kt, .int (nI tl), .ref ka, .int (nI al), .ref kp, .int (nI pn), .ref kks, .ref kds, .ref ksp, .ref kkm, .ref kda]))] ++ pl))) (va_Qv (fun (u : va_W) => (True) ∧ okx g T [] u) (po g.1 vcl (va_A ([(h0, .inr (0, [.ref kt, .int (nI tl), .ref ka, .int (nI al), .ref kp, .int (nI pn), .ref kks, .ref kds, .ref ksp, .ref kkm, .ref kda]))] ++ pl) sz) (fun (u : va_W) => [(h0, .inr (0, [.ref kt, .int (nI (tl + 4)), .ref ka, .int (nI al), .ref kp, .int (nI pn), .ref kks, .ref kds, .ref ksp, .ref kkm, .ref kda]))] ++ u)) (va_A ([(h0, .inr (0, [.ref kt, .int (nI tl), .ref ka, .int (nI al), .ref kp, .int (nI pn), .ref kks, .ref kds, .ref ksp, .ref kkm, .ref kda]))] ++ pl) sz)) 0 0 (va_A ([(h0, .inr (0, [.ref kt, .int (nI tl), .ref ka, .int (nI al), .ref kp, .int (nI pn), .ref kks, .ref kds, .ref ksp, .ref kkm, .ref kda]))] ++ pl) sz) := by
  refine mc_entry (cc := c_K_writeNumber) (maxL := 2) (ret := none) (by decide) rfl (Nat.le_of_ble_eq_true rfl) ?_
  intro p e s m args below meth c ls F hr hlk hnm hsz hP hD hE hA hl
  obtain ⟨hx, hb, hml, hown, hts⟩ := id F
  have hK := hE.1
  generalize va_A ([(h0, .inr (0, [.ref kt, .int (nI tl), .ref ka, .int (nI al), .ref kp, .int (nI pn), .ref kks, .ref kds, .ref ksp, .ref kkm, .ref kda]))] ++ pl) sz = A at hD hE hA ⊢
  have hS : va_S A s.heap s.heap [] := va_S.rf
  have hl : lv_has ls 2 [(0, .ref h0), (1, .int v)] := hl
  refine lv_aload_n hx hb dK_writeNumber_0 rfl (lv_at hl 0 rfl) ?_
  refine va_get (D := g.1) (ci := 0) (C := "LatticeKeys") (T := T_K) (N := 11) hx hb hts (wg_ft i_K) hown hK hP 0 rfl rfl 0 (by decide) (hts _ (wg_t kw_374)) (fun _ h9 => h9) rfl dK_writeNumber_1 ?_
  refine lv_aload_n hx hb dK_writeNumber_4 rfl (lv_at hl 0 rfl) ?_
  refine va_get (D := g.1) (ci := 0) (C := "LatticeKeys") (T := T_K) (N := 11) hx hb hts (wg_ft i_K) hown hK hP 0 rfl rfl 1 (by decide) (hts _ (wg_t kw_375)) (fun _ h9 => h9) rfl dK_writeNumber_5 ?_
  refine lv_iload_n hx hb dK_writeNumber_8 rfl (lv_at hl 1 rfl) ?_
  refine lv_bipush (v := nI 24) hx hb dK_writeNumber_9 (by decide) ?_
  refine lv_iushr hx hb dK_writeNumber_11 rfl ?_
  refine mi_any (fun z21 => ?_)
  refine lv_i2b hx hb dK_writeNumber_12 rfl ?_
  refine mi_any (fun z22 => ?_)
  refine ty_bast hx hb hK hO k_kt (nxg clo_nil k_kt rfl) hP hD hS (vp_in_nI (by omega) (by decide)) dK_writeNumber_13 (fun pl H locs hO hP hD hS => ?_)
  refine lv_aload_n hx hb dK_writeNumber_14 rfl (lv_at hl 0 rfl) ?_
  refine va_get (D := g.1) (ci := 0) (C := "LatticeKeys") (T := T_K) (N := 11) hx hb hts (wg_ft i_K) hown hK hP 0 rfl rfl 0 (by decide) (hts _ (wg_t kw_374)) (fun _ h9 => h9) rfl dK_writeNumber_15 ?_
  refine lv_aload_n hx hb dK_writeNumber_18 rfl (lv_at hl 0 rfl) ?_
  refine va_get (D := g.1) (ci := 0) (C := "LatticeKeys") (T := T_K) (N := 11) hx hb hts (wg_ft i_K) hown hK hP 0 rfl rfl 1 (by decide) (hts _ (wg_t kw_375)) (fun _ h9 => h9) rfl dK_writeNumber_19 ?_
  refine lv_iconst (v := nI 1) hx hb dK_writeNumber_22 (by decide) ?_
  refine mi_iadd hx hb dK_writeNumber_23 ?_
  refine lv_iload_n hx hb dK_writeNumber_24 rfl (lv_at hl 1 rfl) ?_
  refine lv_bipush (v := nI 16) hx hb dK_writeNumber_25 (by decide) ?_
  refine lv_iushr hx hb dK_writeNumber_27 rfl ?_
  refine mi_any (fun z23 => ?_)
  refine lv_i2b hx hb dK_writeNumber_28 rfl ?_
  refine mi_any (fun z24 => ?_)
  refine ty_bast hx hb hK hO k_kt (nxg clo_nil k_kt rfl) hP hD hS (vp_in_nI (by omega) (by decide)) dK_writeNumber_29 (fun pl H locs hO hP hD hS => ?_)
  refine lv_aload_n hx hb dK_writeNumber_30 rfl (lv_at hl 0 rfl) ?_
  refine va_get (D := g.1) (ci := 0) (C := "LatticeKeys") (T := T_K) (N := 11) hx hb hts (wg_ft i_K) hown hK hP 0 rfl rfl 0 (by decide) (hts _ (wg_t kw_374)) (fun _ h9 => h9) rfl dK_writeNumber_31 ?_
  refine lv_aload_n hx hb dK_writeNumber_34 rfl (lv_at hl 0 rfl) ?_
  refine va_get (D := g.1) (ci := 0) (C := "LatticeKeys") (T := T_K) (N := 11) hx hb hts (wg_ft i_K) hown hK hP 0 rfl rfl 1 (by decide) (hts _ (wg_t kw_375)) (fun _ h9 => h9) rfl dK_writeNumber_35 ?_
  refine lv_iconst (v := nI 2) hx hb dK_writeNumber_38 (by decide) ?_
  refine mi_iadd hx hb dK_writeNumber_39 ?_
  refine lv_iload_n hx hb dK_writeNumber_40 rfl (lv_at hl 1 rfl) ?_
  refine lv_bipush (v := nI 8) hx hb dK_writeNumber_41 (by decide) ?_
  refine lv_iushr hx hb dK_writeNumber_43 rfl ?_
  refine mi_any (fun z25 => ?_)
  refine lv_i2b hx hb dK_writeNumber_44 rfl ?_
  refine mi_any (fun z26 => ?_)
  refine ty_bast hx hb hK hO k_kt (nxg clo_nil k_kt rfl) hP hD hS (vp_in_nI (by omega) (by decide)) dK_writeNumber_45 (fun pl H locs hO hP hD hS => ?_)
  refine lv_aload_n hx hb dK_writeNumber_46 rfl (lv_at hl 0 rfl) ?_
  refine va_get (D := g.1) (ci := 0) (C := "LatticeKeys") (T := T_K) (N := 11) hx hb hts (wg_ft i_K) hown hK hP 0 rfl rfl 0 (by decide) (hts _ (wg_t kw_374)) (fun _ h9 => h9) rfl dK_writeNumber_47 ?_
  refine lv_aload_n hx hb dK_writeNumber_50 rfl (lv_at hl 0 rfl) ?_
  refine va_get (D := g.1) (ci := 0) (C := "LatticeKeys") (T := T_K) (N := 11) hx hb hts (wg_ft i_K) hown hK hP 0 rfl rfl 1 (by decide) (hts _ (wg_t kw_375)) (fun _ h9 => h9) rfl dK_writeNumber_51 ?_
  refine lv_iconst (v := nI 3) hx hb dK_writeNumber_54 (by decide) ?_
  refine mi_iadd hx hb dK_writeNumber_55 ?_
  refine lv_iload_n hx hb dK_writeNumber_56 rfl (lv_at hl 1 rfl) ?_
  refine lv_i2b hx hb dK_writeNumber_57 rfl ?_
  refine mi_any (fun z27 => ?_)
  refine ty_bast hx hb hK hO k_kt (nxg clo_nil k_kt rfl) hP hD hS (vp_in_nI (by omega) (by decide)) dK_writeNumber_58 (fun pl H locs hO hP hD hS => ?_)
  refine lv_aload_n hx hb dK_writeNumber_59 rfl (lv_at hl 0 rfl) ?_
  refine lv_dup hx hb dK_writeNumber_60 rfl ?_
  refine va_get (D := g.1) (ci := 0) (C := "LatticeKeys") (T := T_K) (N := 11) hx hb hts (wg_ft i_K) hown hK hP 0 rfl rfl 1 (by decide) (hts _ (wg_t kw_375)) (fun _ h9 => h9) rfl dK_writeNumber_61 ?_
  refine lv_iconst (v := nI 4) hx hb dK_writeNumber_64 (by decide) ?_
  refine mi_iadd hx hb dK_writeNumber_65 ?_
  refine va_put (D := g.1) (ci := 0) (v := .int (nI (tl + 4))) (ty := .int) (C := "LatticeKeys") (T := T_K) (N := 11) hx hb hts (wg_ft i_K) ty_K k_K n_K hown hK hP hD hS 0 rfl rfl 1 (by decide) (hts _ (wg_t kw_375)) (fun _ h9 => h9) rfl (by decide +kernel) rfl rfl (Nat.le_of_ble_eq_true rfl) dK_writeNumber_66 (fun H locs hP hD hS => ?_)
  have hP : va_P g.1 vcl ([(h0, .inr (0, [.ref kt, .int (nI (tl + 4)), .ref ka, .int (nI al), .ref kp, .int (nI pn), .ref kks, .ref kds, .ref ksp, .ref kkm, .ref kda]))] ++ pl) _ := hP
  have hD : va_D _ ([(h0, .inr (0, [.ref kt, .int (nI (tl + 4)), .ref ka, .int (nI al), .ref kp, .int (nI pn), .ref kks, .ref kds, .ref ksp, .ref kkm, .ref kda]))] ++ pl) := hD
  exact mp_vret hx hb hr hlk hP hD hS pl ⟨trivial, hO⟩ [0] rfl rfl rfl (by omega) (by omega) dK_writeNumber_69
set_option maxHeartbeats 4000000 in
set_option maxRecDepth 100000 in
theorem t_K_isSet (l : Launch) (g : Gd) (sz : Nat) (T : Ty) (pl : va_W) (hO : okx g T [] pl) (hU : uni T) (v : Int32)  : Met l y_K_isSet w_K_isSet ({ frames := 0, cells := 0, slots := 0, locals := 0 } : Room) (va_Pc [.int v] (pr (en g) g.1 vcl sz ([] ++ pl))) (va_Qi (fun (r : Int32) (u : va_W) => ((r = nI 0 ∧ (v < 0 ∨ nI 5 < v)) ∨ (r = nI 1 ∧ ∃ j : Nat, j < 6 ∧ v = nI j)) ∧ okx g T [] u) (po g.1 vcl (va_A ([] ++ pl) sz) (fun (u : va_W) => [] ++ u)) (va_A ([] ++ pl) sz)) 0 0 (va_A ([] ++ pl) sz) := by
  refine mc_entry (cc := c_K_isSet) (maxL := 1) (ret := (some .boolean)) (by decide) rfl (Nat.le_of_ble_eq_true rfl) ?_
  intro p e s m args below meth c ls F hr hlk hnm hsz hP hD hE hA hl
  obtain ⟨hx, hb, hml, hown, hts⟩ := id F
  have hK := hE.1
  generalize va_A ([] ++ pl) sz = A at hD hE hA ⊢
  have hS : va_S A s.heap s.heap [] := va_S.rf
  have hl : lv_has ls 1 [(0, .int v)] := hl
  refine lv_iload_n hx hb dK_isSet_0 rfl (lv_at hl 0 rfl) ?_
  refine lv_if_lt (tgt := 14) hx hb dK_isSet_1 (by decide) (fun h21 => ?_) (fun h21 => ?_)
  · refine lv_iconst (v := nI 0) hx hb dK_isSet_14 (by decide) ?_
    exact mp_zret hx hb hr hlk rfl hP hD hS pl ⟨(Or.inl ⟨rfl, Or.inl h21⟩), hO⟩ [] rfl rfl rfl (by omega) (by omega) dK_isSet_15
  · refine lv_iload_n hx hb dK_isSet_4 rfl (lv_at hl 0 rfl) ?_
    refine lv_bipush (v := nI 6) hx hb dK_isSet_5 (by decide) ?_
    refine lv_icmp_ge (tgt := 14) hx hb dK_isSet_7 (by decide) (fun h22 => ?_) (fun h22 => ?_)
    · refine lv_iconst (v := nI 0) hx hb dK_isSet_14 (by decide) ?_
      exact mp_zret hx hb hr hlk rfl hP hD hS pl ⟨(Or.inl ⟨rfl, Or.inr (i32_gt5 h22)⟩), hO⟩ [] rfl rfl rfl (by omega) (by omega) dK_isSet_15
    · obtain ⟨z21, hz21, rfl⟩ := i32_lt h21 (by omega) h22
      refine lv_iconst (v := nI 1) hx hb dK_isSet_10 (by decide) ?_
      refine lv_goto (tgt := 15) hx hb dK_isSet_11 (by decide) ?_
      exact mp_zret hx hb hr hlk rfl hP hD hS pl ⟨(Or.inr ⟨rfl, _, by omega, rfl⟩), hO⟩ [] rfl rfl rfl (by omega) (by omega) dK_isSet_15
set_option maxHeartbeats 4000000 in
set_option maxRecDepth 100000 in
theorem t_K_publicLength_0 (l : Launch) (g : Gd) (sz : Nat) (T : Ty) (pl : va_W) (hO : okx g T [] pl) (hU : uni T) (h0 kt ka kp kks kds ksp kkm kda tl al pn : Nat) (k_kt : T kt = some (1, 16384)) (k_ka : T ka = some (1, 8192)) (k_kp : T kp = some (6, 0)) (k_kks : T kks = some (50, 0)) (k_kds : T kds = some (51, 0)) (k_ksp : T ksp = some (10, 0)) (k_kkm : T kkm = some (13, 0)) (k_kda : T kda = some (15, 0)) (hb : tl ≤ 16384 ∧ al ≤ 8192 ∧ pn ≤ 8)  : Met l y_K_publicLength w_K_publicLength ({ frames := 0, cells := 0, slots := 0, locals := 0 } : Room) (va_Pc [.ref h0, .int (nI 0)] (pr (en g) g.1 vcl sz ([(h0, .inr (0, [.ref kt, .int (nI tl), .ref ka, .int (nI al), .ref kp, .int (nI pn), .ref kks, .ref kds, .ref ksp, .ref kkm, .ref kda]))] ++ pl))) (va_Qi (fun (r : Int32) (u : va_W) => (r = nI 800) ∧ okx g T [] u) (po g.1 vcl (va_A ([(h0, .inr (0, [.ref kt, .int (nI tl), .ref ka, .int (nI al), .ref kp, .int (nI pn), .ref kks, .ref kds, .ref ksp, .ref kkm, .ref kda]))] ++ pl) sz) (fun (u : va_W) => [(h0, .inr (0, [.ref kt, .int (nI tl), .ref ka, .int (nI al), .ref kp, .int (nI pn), .ref kks, .ref kds, .ref ksp, .ref kkm, .ref kda]))] ++ u)) (va_A ([(h0, .inr (0, [.ref kt, .int (nI tl), .ref ka, .int (nI al), .ref kp, .int (nI pn), .ref kks, .ref kds, .ref ksp, .ref kkm, .ref kda]))] ++ pl) sz)) 0 0 (va_A ([(h0, .inr (0, [.ref kt, .int (nI tl), .ref ka, .int (nI al), .ref kp, .int (nI pn), .ref kks, .ref kds, .ref ksp, .ref kkm, .ref kda]))] ++ pl) sz) := by
  refine mc_entry (cc := c_K_publicLength) (maxL := 2) (ret := (some .int)) (by decide) rfl (Nat.le_of_ble_eq_true rfl) ?_
  intro p e s m args below meth c ls F hr hlk hnm hsz hP hD hE hA hl
  obtain ⟨hx, hb, hml, hown, hts⟩ := id F
  have hK := hE.1
  generalize va_A ([(h0, .inr (0, [.ref kt, .int (nI tl), .ref ka, .int (nI al), .ref kp, .int (nI pn), .ref kks, .ref kds, .ref ksp, .ref kkm, .ref kda]))] ++ pl) sz = A at hD hE hA ⊢
  have hS : va_S A s.heap s.heap [] := va_S.rf
  have hl : lv_has ls 2 [(0, .ref h0), (1, .int (nI 0))] := hl
  refine lv_iload_n hx hb dK_publicLength_0 rfl (lv_at hl 1 rfl) ?_
  refine lv_iconst (v := nI 3) hx hb dK_publicLength_1 (by decide) ?_
  refine mi_ge (tgt := 17) hx hb dK_publicLength_2 (by decide) (by omega) (by omega) (fun h21 => absurd h21 (by omega)) (fun h21 => ?_)
  refine lv_aload_n hx hb dK_publicLength_5 rfl (lv_at hl 0 rfl) ?_
  refine va_get (D := g.1) (ci := 0) (C := "LatticeKeys") (T := T_K) (N := 11) hx hb hts (wg_ft i_K) hown hK hP 0 rfl rfl 6 (by decide) (hts _ (wg_t kw_380)) (fun _ h9 => h9) rfl dK_publicLength_6 ?_
  refine lv_iload_n hx hb dK_publicLength_9 rfl (lv_at hl 1 rfl) ?_
  refine ty_aald50 hx hb hK hO k_kks (nxg clo_nil k_kks rfl) hP (by omega) dK_publicLength_10 (fun r21 kr21 => ?_)
  refine ty_get (ci := 1) (C := "LatticeKeys$KemSet") (TT := T_KS) (N := 10) (kd := (40, 0)) hx hb hts (wg_ft i_KS) hown hK hO kr21 (nxg clo_nil kr21 rfl) hP (fun _ h9 => h9) rfl 4 (by decide) (hts _ (wg_t kw_240)) (fun _ h9 => h9) (cd := (1, 0, 800)) rfl dK_publicLength_11 (fun v21 hv21 => ?_)
  obtain rfl := (show v21 = .int (nI 800) from hv21)
  refine lv_goto (tgt := 28) hx hb dK_publicLength_14 (by decide) ?_
  exact mp_iret hx hb hr hlk hP hD hS pl ⟨rfl, hO⟩ [0] rfl rfl rfl (by omega) (by omega) dK_publicLength_28
set_option maxHeartbeats 4000000 in
set_option maxRecDepth 100000 in
theorem t_K_secretLength_0 (l : Launch) (g : Gd) (sz : Nat) (T : Ty) (pl : va_W) (hO : okx g T [] pl) (hU : uni T) (h0 kt ka kp kks kds ksp kkm kda tl al pn : Nat) (k_kt : T kt = some (1, 16384)) (k_ka : T ka = some (1, 8192)) (k_kp : T kp = some (6, 0)) (k_kks : T kks = some (50, 0)) (k_kds : T kds = some (51, 0)) (k_ksp : T ksp = some (10, 0)) (k_kkm : T kkm = some (13, 0)) (k_kda : T kda = some (15, 0)) (hb : tl ≤ 16384 ∧ al ≤ 8192 ∧ pn ≤ 8)  : Met l y_K_secretLength w_K_secretLength ({ frames := 0, cells := 0, slots := 0, locals := 0 } : Room) (va_Pc [.ref h0, .int (nI 0)] (pr (en g) g.1 vcl sz ([(h0, .inr (0, [.ref kt, .int (nI tl), .ref ka, .int (nI al), .ref kp, .int (nI pn), .ref kks, .ref kds, .ref ksp, .ref kkm, .ref kda]))] ++ pl))) (va_Qi (fun (r : Int32) (u : va_W) => (r = nI 1632) ∧ okx g T [] u) (po g.1 vcl (va_A ([(h0, .inr (0, [.ref kt, .int (nI tl), .ref ka, .int (nI al), .ref kp, .int (nI pn), .ref kks, .ref kds, .ref ksp, .ref kkm, .ref kda]))] ++ pl) sz) (fun (u : va_W) => [(h0, .inr (0, [.ref kt, .int (nI tl), .ref ka, .int (nI al), .ref kp, .int (nI pn), .ref kks, .ref kds, .ref ksp, .ref kkm, .ref kda]))] ++ u)) (va_A ([(h0, .inr (0, [.ref kt, .int (nI tl), .ref ka, .int (nI al), .ref kp, .int (nI pn), .ref kks, .ref kds, .ref ksp, .ref kkm, .ref kda]))] ++ pl) sz)) 0 0 (va_A ([(h0, .inr (0, [.ref kt, .int (nI tl), .ref ka, .int (nI al), .ref kp, .int (nI pn), .ref kks, .ref kds, .ref ksp, .ref kkm, .ref kda]))] ++ pl) sz) := by
  refine mc_entry (cc := c_K_secretLength) (maxL := 2) (ret := (some .int)) (by decide) rfl (Nat.le_of_ble_eq_true rfl) ?_
  intro p e s m args below meth c ls F hr hlk hnm hsz hP hD hE hA hl
  obtain ⟨hx, hb, hml, hown, hts⟩ := id F
  have hK := hE.1
  generalize va_A ([(h0, .inr (0, [.ref kt, .int (nI tl), .ref ka, .int (nI al), .ref kp, .int (nI pn), .ref kks, .ref kds, .ref ksp, .ref kkm, .ref kda]))] ++ pl) sz = A at hD hE hA ⊢
  have hS : va_S A s.heap s.heap [] := va_S.rf
  have hl : lv_has ls 2 [(0, .ref h0), (1, .int (nI 0))] := hl
  refine lv_iload_n hx hb dK_secretLength_0 rfl (lv_at hl 1 rfl) ?_
  refine lv_iconst (v := nI 3) hx hb dK_secretLength_1 (by decide) ?_
  refine mi_ge (tgt := 17) hx hb dK_secretLength_2 (by decide) (by omega) (by omega) (fun h21 => absurd h21 (by omega)) (fun h21 => ?_)
  refine lv_aload_n hx hb dK_secretLength_5 rfl (lv_at hl 0 rfl) ?_
  refine va_get (D := g.1) (ci := 0) (C := "LatticeKeys") (T := T_K) (N := 11) hx hb hts (wg_ft i_K) hown hK hP 0 rfl rfl 6 (by decide) (hts _ (wg_t kw_380)) (fun _ h9 => h9) rfl dK_secretLength_6 ?_
  refine lv_iload_n hx hb dK_secretLength_9 rfl (lv_at hl 1 rfl) ?_
  refine ty_aald50 hx hb hK hO k_kks (nxg clo_nil k_kks rfl) hP (by omega) dK_secretLength_10 (fun r21 kr21 => ?_)
  refine ty_get (ci := 1) (C := "LatticeKeys$KemSet") (TT := T_KS) (N := 10) (kd := (40, 0)) hx hb hts (wg_ft i_KS) hown hK hO kr21 (nxg clo_nil kr21 rfl) hP (fun _ h9 => h9) rfl 5 (by decide) (hts _ (wg_t kw_242)) (fun _ h9 => h9) (cd := (1, 0, 1632)) rfl dK_secretLength_11 (fun v21 hv21 => ?_)
  obtain rfl := (show v21 = .int (nI 1632) from hv21)
  refine lv_goto (tgt := 28) hx hb dK_secretLength_14 (by decide) ?_
  exact mp_iret hx hb hr hlk hP hD hS pl ⟨rfl, hO⟩ [0] rfl rfl rfl (by omega) (by omega) dK_secretLength_28
set_option maxHeartbeats 4000000 in
set_option maxRecDepth 100000 in
theorem t_K_seedLength_0 (l : Launch) (g : Gd) (sz : Nat) (T : Ty) (pl : va_W) (hO : okx g T [] pl) (hU : uni T)  : Met l y_K_seedLength w_K_seedLength ({ frames := 0, cells := 0, slots := 0, locals := 0 } : Room) (va_Pc [.int (nI 0)] (pr (en g) g.1 vcl sz ([] ++ pl))) (va_Qi (fun (r : Int32) (u : va_W) => (r = nI 64) ∧ okx g T [] u) (po g.1 vcl (va_A ([] ++ pl) sz) (fun (u : va_W) => [] ++ u)) (va_A ([] ++ pl) sz)) 0 0 (va_A ([] ++ pl) sz) := by
  refine mc_entry (cc := c_K_seedLength) (maxL := 1) (ret := (some .int)) (by decide) rfl (Nat.le_of_ble_eq_true rfl) ?_
  intro p e s m args below meth c ls F hr hlk hnm hsz hP hD hE hA hl
  obtain ⟨hx, hb, hml, hown, hts⟩ := id F
  have hK := hE.1
  generalize va_A ([] ++ pl) sz = A at hD hE hA ⊢
  have hS : va_S A s.heap s.heap [] := va_S.rf
  have hl : lv_has ls 1 [(0, .int (nI 0))] := hl
  refine lv_iload_n hx hb dK_seedLength_0 rfl (lv_at hl 0 rfl) ?_
  refine lv_iconst (v := nI 3) hx hb dK_seedLength_1 (by decide) ?_
  refine mi_ge (tgt := 10) hx hb dK_seedLength_2 (by decide) (by omega) (by omega) (fun h21 => absurd h21 (by omega)) (fun h21 => ?_)
  refine lv_bipush (v := nI 64) hx hb dK_seedLength_5 (by decide) ?_
  refine lv_goto (tgt := 12) hx hb dK_seedLength_7 (by decide) ?_
  exact mp_iret hx hb hr hlk hP hD hS pl ⟨rfl, hO⟩ [] rfl rfl rfl (by omega) (by omega) dK_seedLength_12
set_option maxHeartbeats 4000000 in
set_option maxRecDepth 100000 in
theorem t_K_publicLength_1 (l : Launch) (g : Gd) (sz : Nat) (T : Ty) (pl : va_W) (hO : okx g T [] pl) (hU : uni T) (h0 kt ka kp kks kds ksp kkm kda tl al pn : Nat) (k_kt : T kt = some (1, 16384)) (k_ka : T ka = some (1, 8192)) (k_kp : T kp = some (6, 0)) (k_kks : T kks = some (50, 0)) (k_kds : T kds = some (51, 0)) (k_ksp : T ksp = some (10, 0)) (k_kkm : T kkm = some (13, 0)) (k_kda : T kda = some (15, 0)) (hb : tl ≤ 16384 ∧ al ≤ 8192 ∧ pn ≤ 8)  : Met l y_K_publicLength w_K_publicLength ({ frames := 0, cells := 0, slots := 0, locals := 0 } : Room) (va_Pc [.ref h0, .int (nI 1)] (pr (en g) g.1 vcl sz ([(h0, .inr (0, [.ref kt, .int (nI tl), .ref ka, .int (nI al), .ref kp, .int (nI pn), .ref kks, .ref kds, .ref ksp, .ref kkm, .ref kda]))] ++ pl))) (va_Qi (fun (r : Int32) (u : va_W) => (r = nI 1184) ∧ okx g T [] u) (po g.1 vcl (va_A ([(h0, .inr (0, [.ref kt, .int (nI tl), .ref ka, .int (nI al), .ref kp, .int (nI pn), .ref kks, .ref kds, .ref ksp, .ref kkm, .ref kda]))] ++ pl) sz) (fun (u : va_W) => [(h0, .inr (0, [.ref kt, .int (nI tl), .ref ka, .int (nI al), .ref kp, .int (nI pn), .ref kks, .ref kds, .ref ksp, .ref kkm, .ref kda]))] ++ u)) (va_A ([(h0, .inr (0, [.ref kt, .int (nI tl), .ref ka, .int (nI al), .ref kp, .int (nI pn), .ref kks, .ref kds, .ref ksp, .ref kkm, .ref kda]))] ++ pl) sz)) 0 0 (va_A ([(h0, .inr (0, [.ref kt, .int (nI tl), .ref ka, .int (nI al), .ref kp, .int (nI pn), .ref kks, .ref kds, .ref ksp, .ref kkm, .ref kda]))] ++ pl) sz) := by
  refine mc_entry (cc := c_K_publicLength) (maxL := 2) (ret := (some .int)) (by decide) rfl (Nat.le_of_ble_eq_true rfl) ?_
  intro p e s m args below meth c ls F hr hlk hnm hsz hP hD hE hA hl
  obtain ⟨hx, hb, hml, hown, hts⟩ := id F
  have hK := hE.1
  generalize va_A ([(h0, .inr (0, [.ref kt, .int (nI tl), .ref ka, .int (nI al), .ref kp, .int (nI pn), .ref kks, .ref kds, .ref ksp, .ref kkm, .ref kda]))] ++ pl) sz = A at hD hE hA ⊢
  have hS : va_S A s.heap s.heap [] := va_S.rf
  have hl : lv_has ls 2 [(0, .ref h0), (1, .int (nI 1))] := hl
  refine lv_iload_n hx hb dK_publicLength_0 rfl (lv_at hl 1 rfl) ?_
  refine lv_iconst (v := nI 3) hx hb dK_publicLength_1 (by decide) ?_
  refine mi_ge (tgt := 17) hx hb dK_publicLength_2 (by decide) (by omega) (by omega) (fun h21 => absurd h21 (by omega)) (fun h21 => ?_)
  refine lv_aload_n hx hb dK_publicLength_5 rfl (lv_at hl 0 rfl) ?_
  refine va_get (D := g.1) (ci := 0) (C := "LatticeKeys") (T := T_K) (N := 11) hx hb hts (wg_ft i_K) hown hK hP 0 rfl rfl 6 (by decide) (hts _ (wg_t kw_380)) (fun _ h9 => h9) rfl dK_publicLength_6 ?_
  refine lv_iload_n hx hb dK_publicLength_9 rfl (lv_at hl 1 rfl) ?_
  refine ty_aald50 hx hb hK hO k_kks (nxg clo_nil k_kks rfl) hP (by omega) dK_publicLength_10 (fun r21 kr21 => ?_)
  refine ty_get (ci := 1) (C := "LatticeKeys$KemSet") (TT := T_KS) (N := 10) (kd := (41, 0)) hx hb hts (wg_ft i_KS) hown hK hO kr21 (nxg clo_nil kr21 rfl) hP (fun _ h9 => h9) rfl 4 (by decide) (hts _ (wg_t kw_240)) (fun _ h9 => h9) (cd := (1, 0, 1184)) rfl dK_publicLength_11 (fun v21 hv21 => ?_)
  obtain rfl := (show v21 = .int (nI 1184) from hv21)
  refine lv_goto (tgt := 28) hx hb dK_publicLength_14 (by decide) ?_
  exact mp_iret hx hb hr hlk hP hD hS pl ⟨rfl, hO⟩ [0] rfl rfl rfl (by omega) (by omega) dK_publicLength_28
set_option maxHeartbeats 4000000 in
set_option maxRecDepth 100000 in
theorem t_K_secretLength_1 (l : Launch) (g : Gd) (sz : Nat) (T : Ty) (pl : va_W) (hO : okx g T [] pl) (hU : uni T) (h0 kt ka kp kks kds ksp kkm kda tl al pn : Nat) (k_kt : T kt = some (1, 16384)) (k_ka : T ka = some (1, 8192)) (k_kp : T kp = some (6, 0)) (k_kks : T kks = some (50, 0)) (k_kds : T kds = some (51, 0)) (k_ksp : T ksp = some (10, 0)) (k_kkm : T kkm = some (13, 0)) (k_kda : T kda = some (15, 0)) (hb : tl ≤ 16384 ∧ al ≤ 8192 ∧ pn ≤ 8)  : Met l y_K_secretLength w_K_secretLength ({ frames := 0, cells := 0, slots := 0, locals := 0 } : Room) (va_Pc [.ref h0, .int (nI 1)] (pr (en g) g.1 vcl sz ([(h0, .inr (0, [.ref kt, .int (nI tl), .ref ka, .int (nI al), .ref kp, .int (nI pn), .ref kks, .ref kds, .ref ksp, .ref kkm, .ref kda]))] ++ pl))) (va_Qi (fun (r : Int32) (u : va_W) => (r = nI 2400) ∧ okx g T [] u) (po g.1 vcl (va_A ([(h0, .inr (0, [.ref kt, .int (nI tl), .ref ka, .int (nI al), .ref kp, .int (nI pn), .ref kks, .ref kds, .ref ksp, .ref kkm, .ref kda]))] ++ pl) sz) (fun (u : va_W) => [(h0, .inr (0, [.ref kt, .int (nI tl), .ref ka, .int (nI al), .ref kp, .int (nI pn), .ref kks, .ref kds, .ref ksp, .ref kkm, .ref kda]))] ++ u)) (va_A ([(h0, .inr (0, [.ref kt, .int (nI tl), .ref ka, .int (nI al), .ref kp, .int (nI pn), .ref kks, .ref kds, .ref ksp, .ref kkm, .ref kda]))] ++ pl) sz)) 0 0 (va_A ([(h0, .inr (0, [.ref kt, .int (nI tl), .ref ka, .int (nI al), .ref kp, .int (nI pn), .ref kks, .ref kds, .ref ksp, .ref kkm, .ref kda]))] ++ pl) sz) := by
  refine mc_entry (cc := c_K_secretLength) (maxL := 2) (ret := (some .int)) (by decide) rfl (Nat.le_of_ble_eq_true rfl) ?_
  intro p e s m args below meth c ls F hr hlk hnm hsz hP hD hE hA hl
  obtain ⟨hx, hb, hml, hown, hts⟩ := id F
  have hK := hE.1
  generalize va_A ([(h0, .inr (0, [.ref kt, .int (nI tl), .ref ka, .int (nI al), .ref kp, .int (nI pn), .ref kks, .ref kds, .ref ksp, .ref kkm, .ref kda]))] ++ pl) sz = A at hD hE hA ⊢
  have hS : va_S A s.heap s.heap [] := va_S.rf
  have hl : lv_has ls 2 [(0, .ref h0), (1, .int (nI 1))] := hl
  refine lv_iload_n hx hb dK_secretLength_0 rfl (lv_at hl 1 rfl) ?_
  refine lv_iconst (v := nI 3) hx hb dK_secretLength_1 (by decide) ?_
  refine mi_ge (tgt := 17) hx hb dK_secretLength_2 (by decide) (by omega) (by omega) (fun h21 => absurd h21 (by omega)) (fun h21 => ?_)
  refine lv_aload_n hx hb dK_secretLength_5 rfl (lv_at hl 0 rfl) ?_
  refine va_get (D := g.1) (ci := 0) (C := "LatticeKeys") (T := T_K) (N := 11) hx hb hts (wg_ft i_K) hown hK hP 0 rfl rfl 6 (by decide) (hts _ (wg_t kw_380)) (fun _ h9 => h9) rfl dK_secretLength_6 ?_
  refine lv_iload_n hx hb dK_secretLength_9 rfl (lv_at hl 1 rfl) ?_
  refine ty_aald50 hx hb hK hO k_kks (nxg clo_nil k_kks rfl) hP (by omega) dK_secretLength_10 (fun r21 kr21 => ?_)
  refine ty_get (ci := 1) (C := "LatticeKeys$KemSet") (TT := T_KS) (N := 10) (kd := (41, 0)) hx hb hts (wg_ft i_KS) hown hK hO kr21 (nxg clo_nil kr21 rfl) hP (fun _ h9 => h9) rfl 5 (by decide) (hts _ (wg_t kw_242)) (fun _ h9 => h9) (cd := (1, 0, 2400)) rfl dK_secretLength_11 (fun v21 hv21 => ?_)
  obtain rfl := (show v21 = .int (nI 2400) from hv21)
  refine lv_goto (tgt := 28) hx hb dK_secretLength_14 (by decide) ?_
  exact mp_iret hx hb hr hlk hP hD hS pl ⟨rfl, hO⟩ [0] rfl rfl rfl (by omega) (by omega) dK_secretLength_28
set_option maxHeartbeats 4000000 in
set_option maxRecDepth 100000 in
theorem t_K_seedLength_1 (l : Launch) (g : Gd) (sz : Nat) (T : Ty) (pl : va_W) (hO : okx g T [] pl) (hU : uni T)  : Met l y_K_seedLength w_K_seedLength ({ frames := 0, cells := 0, slots := 0, locals := 0 } : Room) (va_Pc [.int (nI 1)] (pr (en g) g.1 vcl sz ([] ++ pl))) (va_Qi (fun (r : Int32) (u : va_W) => (r = nI 64) ∧ okx g T [] u) (po g.1 vcl (va_A ([] ++ pl) sz) (fun (u : va_W) => [] ++ u)) (va_A ([] ++ pl) sz)) 0 0 (va_A ([] ++ pl) sz) := by
  refine mc_entry (cc := c_K_seedLength) (maxL := 1) (ret := (some .int)) (by decide) rfl (Nat.le_of_ble_eq_true rfl) ?_
  intro p e s m args below meth c ls F hr hlk hnm hsz hP hD hE hA hl
  obtain ⟨hx, hb, hml, hown, hts⟩ := id F
  have hK := hE.1
  generalize va_A ([] ++ pl) sz = A at hD hE hA ⊢
  have hS : va_S A s.heap s.heap [] := va_S.rf
  have hl : lv_has ls 1 [(0, .int (nI 1))] := hl
  refine lv_iload_n hx hb dK_seedLength_0 rfl (lv_at hl 0 rfl) ?_
  refine lv_iconst (v := nI 3) hx hb dK_seedLength_1 (by decide) ?_
  refine mi_ge (tgt := 10) hx hb dK_seedLength_2 (by decide) (by omega) (by omega) (fun h21 => absurd h21 (by omega)) (fun h21 => ?_)
  refine lv_bipush (v := nI 64) hx hb dK_seedLength_5 (by decide) ?_
  refine lv_goto (tgt := 12) hx hb dK_seedLength_7 (by decide) ?_
  exact mp_iret hx hb hr hlk hP hD hS pl ⟨rfl, hO⟩ [] rfl rfl rfl (by omega) (by omega) dK_seedLength_12
set_option maxHeartbeats 4000000 in
set_option maxRecDepth 100000 in
theorem t_K_publicLength_2 (l : Launch) (g : Gd) (sz : Nat) (T : Ty) (pl : va_W) (hO : okx g T [] pl) (hU : uni T) (h0 kt ka kp kks kds ksp kkm kda tl al pn : Nat) (k_kt : T kt = some (1, 16384)) (k_ka : T ka = some (1, 8192)) (k_kp : T kp = some (6, 0)) (k_kks : T kks = some (50, 0)) (k_kds : T kds = some (51, 0)) (k_ksp : T ksp = some (10, 0)) (k_kkm : T kkm = some (13, 0)) (k_kda : T kda = some (15, 0)) (hb : tl ≤ 16384 ∧ al ≤ 8192 ∧ pn ≤ 8)  : Met l y_K_publicLength w_K_publicLength ({ frames := 0, cells := 0, slots := 0, locals := 0 } : Room) (va_Pc [.ref h0, .int (nI 2)] (pr (en g) g.1 vcl sz ([(h0, .inr (0, [.ref kt, .int (nI tl), .ref ka, .int (nI al), .ref kp, .int (nI pn), .ref kks, .ref kds, .ref ksp, .ref kkm, .ref kda]))] ++ pl))) (va_Qi (fun (r : Int32) (u : va_W) => (r = nI 1568) ∧ okx g T [] u) (po g.1 vcl (va_A ([(h0, .inr (0, [.ref kt, .int (nI tl), .ref ka, .int (nI al), .ref kp, .int (nI pn), .ref kks, .ref kds, .ref ksp, .ref kkm, .ref kda]))] ++ pl) sz) (fun (u : va_W) => [(h0, .inr (0, [.ref kt, .int (nI tl), .ref ka, .int (nI al), .ref kp, .int (nI pn), .ref kks, .ref kds, .ref ksp, .ref kkm, .ref kda]))] ++ u)) (va_A ([(h0, .inr (0, [.ref kt, .int (nI tl), .ref ka, .int (nI al), .ref kp, .int (nI pn), .ref kks, .ref kds, .ref ksp, .ref kkm, .ref kda]))] ++ pl) sz)) 0 0 (va_A ([(h0, .inr (0, [.ref kt, .int (nI tl), .ref ka, .int (nI al), .ref kp, .int (nI pn), .ref kks, .ref kds, .ref ksp, .ref kkm, .ref kda]))] ++ pl) sz) := by
  refine mc_entry (cc := c_K_publicLength) (maxL := 2) (ret := (some .int)) (by decide) rfl (Nat.le_of_ble_eq_true rfl) ?_
  intro p e s m args below meth c ls F hr hlk hnm hsz hP hD hE hA hl
  obtain ⟨hx, hb, hml, hown, hts⟩ := id F
  have hK := hE.1
  generalize va_A ([(h0, .inr (0, [.ref kt, .int (nI tl), .ref ka, .int (nI al), .ref kp, .int (nI pn), .ref kks, .ref kds, .ref ksp, .ref kkm, .ref kda]))] ++ pl) sz = A at hD hE hA ⊢
  have hS : va_S A s.heap s.heap [] := va_S.rf
  have hl : lv_has ls 2 [(0, .ref h0), (1, .int (nI 2))] := hl
  refine lv_iload_n hx hb dK_publicLength_0 rfl (lv_at hl 1 rfl) ?_
  refine lv_iconst (v := nI 3) hx hb dK_publicLength_1 (by decide) ?_
  refine mi_ge (tgt := 17) hx hb dK_publicLength_2 (by decide) (by omega) (by omega) (fun h21 => absurd h21 (by omega)) (fun h21 => ?_)
  refine lv_aload_n hx hb dK_publicLength_5 rfl (lv_at hl 0 rfl) ?_
  refine va_get (D := g.1) (ci := 0) (C := "LatticeKeys") (T := T_K) (N := 11) hx hb hts (wg_ft i_K) hown hK hP 0 rfl rfl 6 (by decide) (hts _ (wg_t kw_380)) (fun _ h9 => h9) rfl dK_publicLength_6 ?_
  refine lv_iload_n hx hb dK_publicLength_9 rfl (lv_at hl 1 rfl) ?_
  refine ty_aald50 hx hb hK hO k_kks (nxg clo_nil k_kks rfl) hP (by omega) dK_publicLength_10 (fun r21 kr21 => ?_)
  refine ty_get (ci := 1) (C := "LatticeKeys$KemSet") (TT := T_KS) (N := 10) (kd := (42, 0)) hx hb hts (wg_ft i_KS) hown hK hO kr21 (nxg clo_nil kr21 rfl) hP (fun _ h9 => h9) rfl 4 (by decide) (hts _ (wg_t kw_240)) (fun _ h9 => h9) (cd := (1, 0, 1568)) rfl dK_publicLength_11 (fun v21 hv21 => ?_)
  obtain rfl := (show v21 = .int (nI 1568) from hv21)
  refine lv_goto (tgt := 28) hx hb dK_publicLength_14 (by decide) ?_
  exact mp_iret hx hb hr hlk hP hD hS pl ⟨rfl, hO⟩ [0] rfl rfl rfl (by omega) (by omega) dK_publicLength_28
set_option maxHeartbeats 4000000 in
set_option maxRecDepth 100000 in
theorem t_K_secretLength_2 (l : Launch) (g : Gd) (sz : Nat) (T : Ty) (pl : va_W) (hO : okx g T [] pl) (hU : uni T) (h0 kt ka kp kks kds ksp kkm kda tl al pn : Nat) (k_kt : T kt = some (1, 16384)) (k_ka : T ka = some (1, 8192)) (k_kp : T kp = some (6, 0)) (k_kks : T kks = some (50, 0)) (k_kds : T kds = some (51, 0)) (k_ksp : T ksp = some (10, 0)) (k_kkm : T kkm = some (13, 0)) (k_kda : T kda = some (15, 0)) (hb : tl ≤ 16384 ∧ al ≤ 8192 ∧ pn ≤ 8)  : Met l y_K_secretLength w_K_secretLength ({ frames := 0, cells := 0, slots := 0, locals := 0 } : Room) (va_Pc [.ref h0, .int (nI 2)] (pr (en g) g.1 vcl sz ([(h0, .inr (0, [.ref kt, .int (nI tl), .ref ka, .int (nI al), .ref kp, .int (nI pn), .ref kks, .ref kds, .ref ksp, .ref kkm, .ref kda]))] ++ pl))) (va_Qi (fun (r : Int32) (u : va_W) => (r = nI 3168) ∧ okx g T [] u) (po g.1 vcl (va_A ([(h0, .inr (0, [.ref kt, .int (nI tl), .ref ka, .int (nI al), .ref kp, .int (nI pn), .ref kks, .ref kds, .ref ksp, .ref kkm, .ref kda]))] ++ pl) sz) (fun (u : va_W) => [(h0, .inr (0, [.ref kt, .int (nI tl), .ref ka, .int (nI al), .ref kp, .int (nI pn), .ref kks, .ref kds, .ref ksp, .ref kkm, .ref kda]))] ++ u)) (va_A ([(h0, .inr (0, [.ref kt, .int (nI tl), .ref ka, .int (nI al), .ref kp, .int (nI pn), .ref kks, .ref kds, .ref ksp, .ref kkm, .ref kda]))] ++ pl) sz)) 0 0 (va_A ([(h0, .inr (0, [.ref kt, .int (nI tl), .ref ka, .int (nI al), .ref kp, .int (nI pn), .ref kks, .ref kds, .ref ksp, .ref kkm, .ref kda]))] ++ pl) sz) := by
  refine mc_entry (cc := c_K_secretLength) (maxL := 2) (ret := (some .int)) (by decide) rfl (Nat.le_of_ble_eq_true rfl) ?_
  intro p e s m args below meth c ls F hr hlk hnm hsz hP hD hE hA hl
  obtain ⟨hx, hb, hml, hown, hts⟩ := id F
  have hK := hE.1
  generalize va_A ([(h0, .inr (0, [.ref kt, .int (nI tl), .ref ka, .int (nI al), .ref kp, .int (nI pn), .ref kks, .ref kds, .ref ksp, .ref kkm, .ref kda]))] ++ pl) sz = A at hD hE hA ⊢
  have hS : va_S A s.heap s.heap [] := va_S.rf
  have hl : lv_has ls 2 [(0, .ref h0), (1, .int (nI 2))] := hl
  refine lv_iload_n hx hb dK_secretLength_0 rfl (lv_at hl 1 rfl) ?_
  refine lv_iconst (v := nI 3) hx hb dK_secretLength_1 (by decide) ?_
  refine mi_ge (tgt := 17) hx hb dK_secretLength_2 (by decide) (by omega) (by omega) (fun h21 => absurd h21 (by omega)) (fun h21 => ?_)
  refine lv_aload_n hx hb dK_secretLength_5 rfl (lv_at hl 0 rfl) ?_
  refine va_get (D := g.1) (ci := 0) (C := "LatticeKeys") (T := T_K) (N := 11) hx hb hts (wg_ft i_K) hown hK hP 0 rfl rfl 6 (by decide) (hts _ (wg_t kw_380)) (fun _ h9 => h9) rfl dK_secretLength_6 ?_
  refine lv_iload_n hx hb dK_secretLength_9 rfl (lv_at hl 1 rfl) ?_
  refine ty_aald50 hx hb hK hO k_kks (nxg clo_nil k_kks rfl) hP (by omega) dK_secretLength_10 (fun r21 kr21 => ?_)
  refine ty_get (ci := 1) (C := "LatticeKeys$KemSet") (TT := T_KS) (N := 10) (kd := (42, 0)) hx hb hts (wg_ft i_KS) hown hK hO kr21 (nxg clo_nil kr21 rfl) hP (fun _ h9 => h9) rfl 5 (by decide) (hts _ (wg_t kw_242)) (fun _ h9 => h9) (cd := (1, 0, 3168)) rfl dK_secretLength_11 (fun v21 hv21 => ?_)
  obtain rfl := (show v21 = .int (nI 3168) from hv21)
  refine lv_goto (tgt := 28) hx hb dK_secretLength_14 (by decide) ?_
  exact mp_iret hx hb hr hlk hP hD hS pl ⟨rfl, hO⟩ [0] rfl rfl rfl (by omega) (by omega) dK_secretLength_28
set_option maxHeartbeats 4000000 in
set_option maxRecDepth 100000 in
theorem t_K_seedLength_2 (l : Launch) (g : Gd) (sz : Nat) (T : Ty) (pl : va_W) (hO : okx g T [] pl) (hU : uni T)  : Met l y_K_seedLength w_K_seedLength ({ frames := 0, cells := 0, slots := 0, locals := 0 } : Room) (va_Pc [.int (nI 2)] (pr (en g) g.1 vcl sz ([] ++ pl))) (va_Qi (fun (r : Int32) (u : va_W) => (r = nI 64) ∧ okx g T [] u) (po g.1 vcl (va_A ([] ++ pl) sz) (fun (u : va_W) => [] ++ u)) (va_A ([] ++ pl) sz)) 0 0 (va_A ([] ++ pl) sz) := by
  refine mc_entry (cc := c_K_seedLength) (maxL := 1) (ret := (some .int)) (by decide) rfl (Nat.le_of_ble_eq_true rfl) ?_
  intro p e s m args below meth c ls F hr hlk hnm hsz hP hD hE hA hl
  obtain ⟨hx, hb, hml, hown, hts⟩ := id F
  have hK := hE.1
  generalize va_A ([] ++ pl) sz = A at hD hE hA ⊢
  have hS : va_S A s.heap s.heap [] := va_S.rf
  have hl : lv_has ls 1 [(0, .int (nI 2))] := hl
  refine lv_iload_n hx hb dK_seedLength_0 rfl (lv_at hl 0 rfl) ?_
  refine lv_iconst (v := nI 3) hx hb dK_seedLength_1 (by decide) ?_
  refine mi_ge (tgt := 10) hx hb dK_seedLength_2 (by decide) (by omega) (by omega) (fun h21 => absurd h21 (by omega)) (fun h21 => ?_)
  refine lv_bipush (v := nI 64) hx hb dK_seedLength_5 (by decide) ?_
  refine lv_goto (tgt := 12) hx hb dK_seedLength_7 (by decide) ?_
  exact mp_iret hx hb hr hlk hP hD hS pl ⟨rfl, hO⟩ [] rfl rfl rfl (by omega) (by omega) dK_seedLength_12
set_option maxHeartbeats 4000000 in
set_option maxRecDepth 100000 in
theorem t_K_publicLength_3 (l : Launch) (g : Gd) (sz : Nat) (T : Ty) (pl : va_W) (hO : okx g T [] pl) (hU : uni T) (h0 kt ka kp kks kds ksp kkm kda tl al pn : Nat) (k_kt : T kt = some (1, 16384)) (k_ka : T ka = some (1, 8192)) (k_kp : T kp = some (6, 0)) (k_kks : T kks = some (50, 0)) (k_kds : T kds = some (51, 0)) (k_ksp : T ksp = some (10, 0)) (k_kkm : T kkm = some (13, 0)) (k_kda : T kda = some (15, 0)) (hb : tl ≤ 16384 ∧ al ≤ 8192 ∧ pn ≤ 8)  : Met l y_K_publicLength w_K_publicLength ({ frames := 0, cells := 0, slots := 0, locals := 0 } : Room) (va_Pc [.ref h0, .int (nI 3)] (pr (en g) g.1 vcl sz ([(h0, .inr (0, [.ref kt, .int (nI tl), .ref ka, .int (nI al), .ref kp, .int (nI pn), .ref kks, .ref kds, .ref ksp, .ref kkm, .ref kda]))] ++ pl))) (va_Qi (fun (r : Int32) (u : va_W) => (r = nI 1312) ∧ okx g T [] u) (po g.1 vcl (va_A ([(h0, .inr (0, [.ref kt, .int (nI tl), .ref ka, .int (nI al), .ref kp, .int (nI pn), .ref kks, .ref kds, .ref ksp, .ref kkm, .ref kda]))] ++ pl) sz) (fun (u : va_W) => [(h0, .inr (0, [.ref kt, .int (nI tl), .ref ka, .int (nI al), .ref kp, .int (nI pn), .ref kks, .ref kds, .ref ksp, .ref kkm, .ref kda]))] ++ u)) (va_A ([(h0, .inr (0, [.ref kt, .int (nI tl), .ref ka, .int (nI al), .ref kp, .int (nI pn), .ref kks, .ref kds, .ref ksp, .ref kkm, .ref kda]))] ++ pl) sz)) 0 0 (va_A ([(h0, .inr (0, [.ref kt, .int (nI tl), .ref ka, .int (nI al), .ref kp, .int (nI pn), .ref kks, .ref kds, .ref ksp, .ref kkm, .ref kda]))] ++ pl) sz) := by
  refine mc_entry (cc := c_K_publicLength) (maxL := 2) (ret := (some .int)) (by decide) rfl (Nat.le_of_ble_eq_true rfl) ?_
  intro p e s m args below meth c ls F hr hlk hnm hsz hP hD hE hA hl
  obtain ⟨hx, hb, hml, hown, hts⟩ := id F
  have hK := hE.1
  generalize va_A ([(h0, .inr (0, [.ref kt, .int (nI tl), .ref ka, .int (nI al), .ref kp, .int (nI pn), .ref kks, .ref kds, .ref ksp, .ref kkm, .ref kda]))] ++ pl) sz = A at hD hE hA ⊢
  have hS : va_S A s.heap s.heap [] := va_S.rf
  have hl : lv_has ls 2 [(0, .ref h0), (1, .int (nI 3))] := hl
  refine lv_iload_n hx hb dK_publicLength_0 rfl (lv_at hl 1 rfl) ?_
  refine lv_iconst (v := nI 3) hx hb dK_publicLength_1 (by decide) ?_
  refine mi_ge (tgt := 17) hx hb dK_publicLength_2 (by decide) (by omega) (by omega) (fun h21 => ?_) (fun h21 => absurd h21 (by omega))
  refine lv_aload_n hx hb dK_publicLength_17 rfl (lv_at hl 0 rfl) ?_
  refine va_get (D := g.1) (ci := 0) (C := "LatticeKeys") (T := T_K) (N := 11) hx hb hts (wg_ft i_K) hown hK hP 0 rfl rfl 7 (by decide) (hts _ (wg_t kw_381)) (fun _ h9 => h9) rfl dK_publicLength_18 ?_
  refine lv_iload_n hx hb dK_publicLength_21 rfl (lv_at hl 1 rfl) ?_
  refine lv_iconst (v := nI 3) hx hb dK_publicLength_22 (by decide) ?_
  refine mi_isub hx hb dK_publicLength_23 (by omega) ?_
  refine mi_as (show nI (3 - 3) = nI 0 from rfl) ?_
  refine ty_aald51 hx hb hK hO k_kds (nxg clo_nil k_kds rfl) hP (by omega) dK_publicLength_24 (fun r21 kr21 => ?_)
  refine ty_get (ci := 2) (C := "LatticeKeys$DsaSet") (TT := T_DS) (N := 17) (kd := (43, 0)) hx hb hts (wg_ft i_DS) hown hK hO kr21 (nxg clo_nil kr21 rfl) hP (fun _ h9 => h9) rfl 13 (by decide) (hts _ (wg_t kw_331)) (fun _ h9 => h9) (cd := (1, 0, 1312)) rfl dK_publicLength_25 (fun v21 hv21 => ?_)
  obtain rfl := (show v21 = .int (nI 1312) from hv21)
  exact mp_iret hx hb hr hlk hP hD hS pl ⟨rfl, hO⟩ [0] rfl rfl rfl (by omega) (by omega) dK_publicLength_28
set_option maxHeartbeats 4000000 in
set_option maxRecDepth 100000 in
theorem t_K_secretLength_3 (l : Launch) (g : Gd) (sz : Nat) (T : Ty) (pl : va_W) (hO : okx g T [] pl) (hU : uni T) (h0 kt ka kp kks kds ksp kkm kda tl al pn : Nat) (k_kt : T kt = some (1, 16384)) (k_ka : T ka = some (1, 8192)) (k_kp : T kp = some (6, 0)) (k_kks : T kks = some (50, 0)) (k_kds : T kds = some (51, 0)) (k_ksp : T ksp = some (10, 0)) (k_kkm : T kkm = some (13, 0)) (k_kda : T kda = some (15, 0)) (hb : tl ≤ 16384 ∧ al ≤ 8192 ∧ pn ≤ 8)  : Met l y_K_secretLength w_K_secretLength ({ frames := 0, cells := 0, slots := 0, locals := 0 } : Room) (va_Pc [.ref h0, .int (nI 3)] (pr (en g) g.1 vcl sz ([(h0, .inr (0, [.ref kt, .int (nI tl), .ref ka, .int (nI al), .ref kp, .int (nI pn), .ref kks, .ref kds, .ref ksp, .ref kkm, .ref kda]))] ++ pl))) (va_Qi (fun (r : Int32) (u : va_W) => (r = nI 2560) ∧ okx g T [] u) (po g.1 vcl (va_A ([(h0, .inr (0, [.ref kt, .int (nI tl), .ref ka, .int (nI al), .ref kp, .int (nI pn), .ref kks, .ref kds, .ref ksp, .ref kkm, .ref kda]))] ++ pl) sz) (fun (u : va_W) => [(h0, .inr (0, [.ref kt, .int (nI tl), .ref ka, .int (nI al), .ref kp, .int (nI pn), .ref kks, .ref kds, .ref ksp, .ref kkm, .ref kda]))] ++ u)) (va_A ([(h0, .inr (0, [.ref kt, .int (nI tl), .ref ka, .int (nI al), .ref kp, .int (nI pn), .ref kks, .ref kds, .ref ksp, .ref kkm, .ref kda]))] ++ pl) sz)) 0 0 (va_A ([(h0, .inr (0, [.ref kt, .int (nI tl), .ref ka, .int (nI al), .ref kp, .int (nI pn), .ref kks, .ref kds, .ref ksp, .ref kkm, .ref kda]))] ++ pl) sz) := by
  refine mc_entry (cc := c_K_secretLength) (maxL := 2) (ret := (some .int)) (by decide) rfl (Nat.le_of_ble_eq_true rfl) ?_
  intro p e s m args below meth c ls F hr hlk hnm hsz hP hD hE hA hl
  obtain ⟨hx, hb, hml, hown, hts⟩ := id F
  have hK := hE.1
  generalize va_A ([(h0, .inr (0, [.ref kt, .int (nI tl), .ref ka, .int (nI al), .ref kp, .int (nI pn), .ref kks, .ref kds, .ref ksp, .ref kkm, .ref kda]))] ++ pl) sz = A at hD hE hA ⊢
  have hS : va_S A s.heap s.heap [] := va_S.rf
  have hl : lv_has ls 2 [(0, .ref h0), (1, .int (nI 3))] := hl
  refine lv_iload_n hx hb dK_secretLength_0 rfl (lv_at hl 1 rfl) ?_
  refine lv_iconst (v := nI 3) hx hb dK_secretLength_1 (by decide) ?_
  refine mi_ge (tgt := 17) hx hb dK_secretLength_2 (by decide) (by omega) (by omega) (fun h21 => ?_) (fun h21 => absurd h21 (by omega))
  refine lv_aload_n hx hb dK_secretLength_17 rfl (lv_at hl 0 rfl) ?_
  refine va_get (D := g.1) (ci := 0) (C := "LatticeKeys") (T := T_K) (N := 11) hx hb hts (wg_ft i_K) hown hK hP 0 rfl rfl 7 (by decide) (hts _ (wg_t kw_381)) (fun _ h9 => h9) rfl dK_secretLength_18 ?_
  refine lv_iload_n hx hb dK_secretLength_21 rfl (lv_at hl 1 rfl) ?_
  refine lv_iconst (v := nI 3) hx hb dK_secretLength_22 (by decide) ?_
  refine mi_isub hx hb dK_secretLength_23 (by omega) ?_
  refine mi_as (show nI (3 - 3) = nI 0 from rfl) ?_
  refine ty_aald51 hx hb hK hO k_kds (nxg clo_nil k_kds rfl) hP (by omega) dK_secretLength_24 (fun r21 kr21 => ?_)
  refine ty_get (ci := 2) (C := "LatticeKeys$DsaSet") (TT := T_DS) (N := 17) (kd := (43, 0)) hx hb hts (wg_ft i_DS) hown hK hO kr21 (nxg clo_nil kr21 rfl) hP (fun _ h9 => h9) rfl 14 (by decide) (hts _ (wg_t kw_333)) (fun _ h9 => h9) (cd := (1, 0, 2560)) rfl dK_secretLength_25 (fun v21 hv21 => ?_)
  obtain rfl := (show v21 = .int (nI 2560) from hv21)
  exact mp_iret hx hb hr hlk hP hD hS pl ⟨rfl, hO⟩ [0] rfl rfl rfl (by omega) (by omega) dK_secretLength_28
set_option maxHeartbeats 4000000 in
set_option maxRecDepth 100000 in
theorem t_K_seedLength_3 (l : Launch) (g : Gd) (sz : Nat) (T : Ty) (pl : va_W) (hO : okx g T [] pl) (hU : uni T)  : Met l y_K_seedLength w_K_seedLength ({ frames := 0, cells := 0, slots := 0, locals := 0 } : Room) (va_Pc [.int (nI 3)] (pr (en g) g.1 vcl sz ([] ++ pl))) (va_Qi (fun (r : Int32) (u : va_W) => (r = nI 32) ∧ okx g T [] u) (po g.1 vcl (va_A ([] ++ pl) sz) (fun (u : va_W) => [] ++ u)) (va_A ([] ++ pl) sz)) 0 0 (va_A ([] ++ pl) sz) := by
  refine mc_entry (cc := c_K_seedLength) (maxL := 1) (ret := (some .int)) (by decide) rfl (Nat.le_of_ble_eq_true rfl) ?_
  intro p e s m args below meth c ls F hr hlk hnm hsz hP hD hE hA hl
  obtain ⟨hx, hb, hml, hown, hts⟩ := id F
  have hK := hE.1
  generalize va_A ([] ++ pl) sz = A at hD hE hA ⊢
  have hS : va_S A s.heap s.heap [] := va_S.rf
  have hl : lv_has ls 1 [(0, .int (nI 3))] := hl
  refine lv_iload_n hx hb dK_seedLength_0 rfl (lv_at hl 0 rfl) ?_
  refine lv_iconst (v := nI 3) hx hb dK_seedLength_1 (by decide) ?_
  refine mi_ge (tgt := 10) hx hb dK_seedLength_2 (by decide) (by omega) (by omega) (fun h21 => ?_) (fun h21 => absurd h21 (by omega))
  refine lv_bipush (v := nI 32) hx hb dK_seedLength_10 (by decide) ?_
  exact mp_iret hx hb hr hlk hP hD hS pl ⟨rfl, hO⟩ [] rfl rfl rfl (by omega) (by omega) dK_seedLength_12
set_option maxHeartbeats 4000000 in
set_option maxRecDepth 100000 in
theorem t_K_publicLength_4 (l : Launch) (g : Gd) (sz : Nat) (T : Ty) (pl : va_W) (hO : okx g T [] pl) (hU : uni T) (h0 kt ka kp kks kds ksp kkm kda tl al pn : Nat) (k_kt : T kt = some (1, 16384)) (k_ka : T ka = some (1, 8192)) (k_kp : T kp = some (6, 0)) (k_kks : T kks = some (50, 0)) (k_kds : T kds = some (51, 0)) (k_ksp : T ksp = some (10, 0)) (k_kkm : T kkm = some (13, 0)) (k_kda : T kda = some (15, 0)) (hb : tl ≤ 16384 ∧ al ≤ 8192 ∧ pn ≤ 8)  : Met l y_K_publicLength w_K_publicLength ({ frames := 0, cells := 0, slots := 0, locals := 0 } : Room) (va_Pc [.ref h0, .int (nI 4)] (pr (en g) g.1 vcl sz ([(h0, .inr (0, [.ref kt, .int (nI tl), .ref ka, .int (nI al), .ref kp, .int (nI pn), .ref kks, .ref kds, .ref ksp, .ref kkm, .ref kda]))] ++ pl))) (va_Qi (fun (r : Int32) (u : va_W) => (r = nI 1952) ∧ okx g T [] u) (po g.1 vcl (va_A ([(h0, .inr (0, [.ref kt, .int (nI tl), .ref ka, .int (nI al), .ref kp, .int (nI pn), .ref kks, .ref kds, .ref ksp, .ref kkm, .ref kda]))] ++ pl) sz) (fun (u : va_W) => [(h0, .inr (0, [.ref kt, .int (nI tl), .ref ka, .int (nI al), .ref kp, .int (nI pn), .ref kks, .ref kds, .ref ksp, .ref kkm, .ref kda]))] ++ u)) (va_A ([(h0, .inr (0, [.ref kt, .int (nI tl), .ref ka, .int (nI al), .ref kp, .int (nI pn), .ref kks, .ref kds, .ref ksp, .ref kkm, .ref kda]))] ++ pl) sz)) 0 0 (va_A ([(h0, .inr (0, [.ref kt, .int (nI tl), .ref ka, .int (nI al), .ref kp, .int (nI pn), .ref kks, .ref kds, .ref ksp, .ref kkm, .ref kda]))] ++ pl) sz) := by
  refine mc_entry (cc := c_K_publicLength) (maxL := 2) (ret := (some .int)) (by decide) rfl (Nat.le_of_ble_eq_true rfl) ?_
  intro p e s m args below meth c ls F hr hlk hnm hsz hP hD hE hA hl
  obtain ⟨hx, hb, hml, hown, hts⟩ := id F
  have hK := hE.1
  generalize va_A ([(h0, .inr (0, [.ref kt, .int (nI tl), .ref ka, .int (nI al), .ref kp, .int (nI pn), .ref kks, .ref kds, .ref ksp, .ref kkm, .ref kda]))] ++ pl) sz = A at hD hE hA ⊢
  have hS : va_S A s.heap s.heap [] := va_S.rf
  have hl : lv_has ls 2 [(0, .ref h0), (1, .int (nI 4))] := hl
  refine lv_iload_n hx hb dK_publicLength_0 rfl (lv_at hl 1 rfl) ?_
  refine lv_iconst (v := nI 3) hx hb dK_publicLength_1 (by decide) ?_
  refine mi_ge (tgt := 17) hx hb dK_publicLength_2 (by decide) (by omega) (by omega) (fun h21 => ?_) (fun h21 => absurd h21 (by omega))
  refine lv_aload_n hx hb dK_publicLength_17 rfl (lv_at hl 0 rfl) ?_
  refine va_get (D := g.1) (ci := 0) (C := "LatticeKeys") (T := T_K) (N := 11) hx hb hts (wg_ft i_K) hown hK hP 0 rfl rfl 7 (by decide) (hts _ (wg_t kw_381)) (fun _ h9 => h9) rfl dK_publicLength_18 ?_
  refine lv_iload_n hx hb dK_publicLength_21 rfl (lv_at hl 1 rfl) ?_
  refine lv_iconst (v := nI 3) hx hb dK_publicLength_22 (by decide) ?_
  refine mi_isub hx hb dK_publicLength_23 (by omega) ?_
  refine mi_as (show nI (4 - 3) = nI 1 from rfl) ?_
  refine ty_aald51 hx hb hK hO k_kds (nxg clo_nil k_kds rfl) hP (by omega) dK_publicLength_24 (fun r21 kr21 => ?_)
  refine ty_get (ci := 2) (C := "LatticeKeys$DsaSet") (TT := T_DS) (N := 17) (kd := (44, 0)) hx hb hts (wg_ft i_DS) hown hK hO kr21 (nxg clo_nil kr21 rfl) hP (fun _ h9 => h9) rfl 13 (by decide) (hts _ (wg_t kw_331)) (fun _ h9 => h9) (cd := (1, 0, 1952)) rfl dK_publicLength_25 (fun v21 hv21 => ?_)
  obtain rfl := (show v21 = .int (nI 1952) from hv21)
  exact mp_iret hx hb hr hlk hP hD hS pl ⟨rfl, hO⟩ [0] rfl rfl rfl (by omega) (by omega) dK_publicLength_28
set_option maxHeartbeats 4000000 in
set_option maxRecDepth 100000 in
theorem t_K_secretLength_4 (l : Launch) (g : Gd) (sz : Nat) (T : Ty) (pl : va_W) (hO : okx g T [] pl) (hU : uni T) (h0 kt ka kp kks kds ksp kkm kda tl al pn : Nat) (k_kt : T kt = some (1, 16384)) (k_ka : T ka = some (1, 8192)) (k_kp : T kp = some (6, 0)) (k_kks : T kks = some (50, 0)) (k_kds : T kds = some (51, 0)) (k_ksp : T ksp = some (10, 0)) (k_kkm : T kkm = some (13, 0)) (k_kda : T kda = some (15, 0)) (hb : tl ≤ 16384 ∧ al ≤ 8192 ∧ pn ≤ 8)  : Met l y_K_secretLength w_K_secretLength ({ frames := 0, cells := 0, slots := 0, locals := 0 } : Room) (va_Pc [.ref h0, .int (nI 4)] (pr (en g) g.1 vcl sz ([(h0, .inr (0, [.ref kt, .int (nI tl), .ref ka, .int (nI al), .ref kp, .int (nI pn), .ref kks, .ref kds, .ref ksp, .ref kkm, .ref kda]))] ++ pl))) (va_Qi (fun (r : Int32) (u : va_W) => (r = nI 4032) ∧ okx g T [] u) (po g.1 vcl (va_A ([(h0, .inr (0, [.ref kt, .int (nI tl), .ref ka, .int (nI al), .ref kp, .int (nI pn), .ref kks, .ref kds, .ref ksp, .ref kkm, .ref kda]))] ++ pl) sz) (fun (u : va_W) => [(h0, .inr (0, [.ref kt, .int (nI tl), .ref ka, .int (nI al), .ref kp, .int (nI pn), .ref kks, .ref kds, .ref ksp, .ref kkm, .ref kda]))] ++ u)) (va_A ([(h0, .inr (0, [.ref kt, .int (nI tl), .ref ka, .int (nI al), .ref kp, .int (nI pn), .ref kks, .ref kds, .ref ksp, .ref kkm, .ref kda]))] ++ pl) sz)) 0 0 (va_A ([(h0, .inr (0, [.ref kt, .int (nI tl), .ref ka, .int (nI al), .ref kp, .int (nI pn), .ref kks, .ref kds, .ref ksp, .ref kkm, .ref kda]))] ++ pl) sz) := by
  refine mc_entry (cc := c_K_secretLength) (maxL := 2) (ret := (some .int)) (by decide) rfl (Nat.le_of_ble_eq_true rfl) ?_
  intro p e s m args below meth c ls F hr hlk hnm hsz hP hD hE hA hl
  obtain ⟨hx, hb, hml, hown, hts⟩ := id F
  have hK := hE.1
  generalize va_A ([(h0, .inr (0, [.ref kt, .int (nI tl), .ref ka, .int (nI al), .ref kp, .int (nI pn), .ref kks, .ref kds, .ref ksp, .ref kkm, .ref kda]))] ++ pl) sz = A at hD hE hA ⊢
  have hS : va_S A s.heap s.heap [] := va_S.rf
  have hl : lv_has ls 2 [(0, .ref h0), (1, .int (nI 4))] := hl
  refine lv_iload_n hx hb dK_secretLength_0 rfl (lv_at hl 1 rfl) ?_
  refine lv_iconst (v := nI 3) hx hb dK_secretLength_1 (by decide) ?_
  refine mi_ge (tgt := 17) hx hb dK_secretLength_2 (by decide) (by omega) (by omega) (fun h21 => ?_) (fun h21 => absurd h21 (by omega))
  refine lv_aload_n hx hb dK_secretLength_17 rfl (lv_at hl 0 rfl) ?_
  refine va_get (D := g.1) (ci := 0) (C := "LatticeKeys") (T := T_K) (N := 11) hx hb hts (wg_ft i_K) hown hK hP 0 rfl rfl 7 (by decide) (hts _ (wg_t kw_381)) (fun _ h9 => h9) rfl dK_secretLength_18 ?_
  refine lv_iload_n hx hb dK_secretLength_21 rfl (lv_at hl 1 rfl) ?_
  refine lv_iconst (v := nI 3) hx hb dK_secretLength_22 (by decide) ?_
  refine mi_isub hx hb dK_secretLength_23 (by omega) ?_
  refine mi_as (show nI (4 - 3) = nI 1 from rfl) ?_
  refine ty_aald51 hx hb hK hO k_kds (nxg clo_nil k_kds rfl) hP (by omega) dK_secretLength_24 (fun r21 kr21 => ?_)
  refine ty_get (ci := 2) (C := "LatticeKeys$DsaSet") (TT := T_DS) (N := 17) (kd := (44, 0)) hx hb hts (wg_ft i_DS) hown hK hO kr21 (nxg clo_nil kr21 rfl) hP (fun _ h9 => h9) rfl 14 (by decide) (hts _ (wg_t kw_333)) (fun _ h9 => h9) (cd := (1, 0, 4032)) rfl dK_secretLength_25 (fun v21 hv21 => ?_)
  obtain rfl := (show v21 = .int (nI 4032) from hv21)
  exact mp_iret hx hb hr hlk hP hD hS pl ⟨rfl, hO⟩ [0] rfl rfl rfl (by omega) (by omega) dK_secretLength_28
set_option maxHeartbeats 4000000 in
set_option maxRecDepth 100000 in
theorem t_K_seedLength_4 (l : Launch) (g : Gd) (sz : Nat) (T : Ty) (pl : va_W) (hO : okx g T [] pl) (hU : uni T)  : Met l y_K_seedLength w_K_seedLength ({ frames := 0, cells := 0, slots := 0, locals := 0 } : Room) (va_Pc [.int (nI 4)] (pr (en g) g.1 vcl sz ([] ++ pl))) (va_Qi (fun (r : Int32) (u : va_W) => (r = nI 32) ∧ okx g T [] u) (po g.1 vcl (va_A ([] ++ pl) sz) (fun (u : va_W) => [] ++ u)) (va_A ([] ++ pl) sz)) 0 0 (va_A ([] ++ pl) sz) := by
  refine mc_entry (cc := c_K_seedLength) (maxL := 1) (ret := (some .int)) (by decide) rfl (Nat.le_of_ble_eq_true rfl) ?_
  intro p e s m args below meth c ls F hr hlk hnm hsz hP hD hE hA hl
  obtain ⟨hx, hb, hml, hown, hts⟩ := id F
  have hK := hE.1
  generalize va_A ([] ++ pl) sz = A at hD hE hA ⊢
  have hS : va_S A s.heap s.heap [] := va_S.rf
  have hl : lv_has ls 1 [(0, .int (nI 4))] := hl
  refine lv_iload_n hx hb dK_seedLength_0 rfl (lv_at hl 0 rfl) ?_
  refine lv_iconst (v := nI 3) hx hb dK_seedLength_1 (by decide) ?_
  refine mi_ge (tgt := 10) hx hb dK_seedLength_2 (by decide) (by omega) (by omega) (fun h21 => ?_) (fun h21 => absurd h21 (by omega))
  refine lv_bipush (v := nI 32) hx hb dK_seedLength_10 (by decide) ?_
  exact mp_iret hx hb hr hlk hP hD hS pl ⟨rfl, hO⟩ [] rfl rfl rfl (by omega) (by omega) dK_seedLength_12
set_option maxHeartbeats 4000000 in
set_option maxRecDepth 100000 in
theorem t_K_publicLength_5 (l : Launch) (g : Gd) (sz : Nat) (T : Ty) (pl : va_W) (hO : okx g T [] pl) (hU : uni T) (h0 kt ka kp kks kds ksp kkm kda tl al pn : Nat) (k_kt : T kt = some (1, 16384)) (k_ka : T ka = some (1, 8192)) (k_kp : T kp = some (6, 0)) (k_kks : T kks = some (50, 0)) (k_kds : T kds = some (51, 0)) (k_ksp : T ksp = some (10, 0)) (k_kkm : T kkm = some (13, 0)) (k_kda : T kda = some (15, 0)) (hb : tl ≤ 16384 ∧ al ≤ 8192 ∧ pn ≤ 8)  : Met l y_K_publicLength w_K_publicLength ({ frames := 0, cells := 0, slots := 0, locals := 0 } : Room) (va_Pc [.ref h0, .int (nI 5)] (pr (en g) g.1 vcl sz ([(h0, .inr (0, [.ref kt, .int (nI tl), .ref ka, .int (nI al), .ref kp, .int (nI pn), .ref kks, .ref kds, .ref ksp, .ref kkm, .ref kda]))] ++ pl))) (va_Qi (fun (r : Int32) (u : va_W) => (r = nI 2592) ∧ okx g T [] u) (po g.1 vcl (va_A ([(h0, .inr (0, [.ref kt, .int (nI tl), .ref ka, .int (nI al), .ref kp, .int (nI pn), .ref kks, .ref kds, .ref ksp, .ref kkm, .ref kda]))] ++ pl) sz) (fun (u : va_W) => [(h0, .inr (0, [.ref kt, .int (nI tl), .ref ka, .int (nI al), .ref kp, .int (nI pn), .ref kks, .ref kds, .ref ksp, .ref kkm, .ref kda]))] ++ u)) (va_A ([(h0, .inr (0, [.ref kt, .int (nI tl), .ref ka, .int (nI al), .ref kp, .int (nI pn), .ref kks, .ref kds, .ref ksp, .ref kkm, .ref kda]))] ++ pl) sz)) 0 0 (va_A ([(h0, .inr (0, [.ref kt, .int (nI tl), .ref ka, .int (nI al), .ref kp, .int (nI pn), .ref kks, .ref kds, .ref ksp, .ref kkm, .ref kda]))] ++ pl) sz) := by
  refine mc_entry (cc := c_K_publicLength) (maxL := 2) (ret := (some .int)) (by decide) rfl (Nat.le_of_ble_eq_true rfl) ?_
  intro p e s m args below meth c ls F hr hlk hnm hsz hP hD hE hA hl
  obtain ⟨hx, hb, hml, hown, hts⟩ := id F
  have hK := hE.1
  generalize va_A ([(h0, .inr (0, [.ref kt, .int (nI tl), .ref ka, .int (nI al), .ref kp, .int (nI pn), .ref kks, .ref kds, .ref ksp, .ref kkm, .ref kda]))] ++ pl) sz = A at hD hE hA ⊢
  have hS : va_S A s.heap s.heap [] := va_S.rf
  have hl : lv_has ls 2 [(0, .ref h0), (1, .int (nI 5))] := hl
  refine lv_iload_n hx hb dK_publicLength_0 rfl (lv_at hl 1 rfl) ?_
  refine lv_iconst (v := nI 3) hx hb dK_publicLength_1 (by decide) ?_
  refine mi_ge (tgt := 17) hx hb dK_publicLength_2 (by decide) (by omega) (by omega) (fun h21 => ?_) (fun h21 => absurd h21 (by omega))
  refine lv_aload_n hx hb dK_publicLength_17 rfl (lv_at hl 0 rfl) ?_
  refine va_get (D := g.1) (ci := 0) (C := "LatticeKeys") (T := T_K) (N := 11) hx hb hts (wg_ft i_K) hown hK hP 0 rfl rfl 7 (by decide) (hts _ (wg_t kw_381)) (fun _ h9 => h9) rfl dK_publicLength_18 ?_
  refine lv_iload_n hx hb dK_publicLength_21 rfl (lv_at hl 1 rfl) ?_
  refine lv_iconst (v := nI 3) hx hb dK_publicLength_22 (by decide) ?_
  refine mi_isub hx hb dK_publicLength_23 (by omega) ?_
  refine mi_as (show nI (5 - 3) = nI 2 from rfl) ?_
  refine ty_aald51 hx hb hK hO k_kds (nxg clo_nil k_kds rfl) hP (by omega) dK_publicLength_24 (fun r21 kr21 => ?_)
  refine ty_get (ci := 2) (C := "LatticeKeys$DsaSet") (TT := T_DS) (N := 17) (kd := (45, 0)) hx hb hts (wg_ft i_DS) hown hK hO kr21 (nxg clo_nil kr21 rfl) hP (fun _ h9 => h9) rfl 13 (by decide) (hts _ (wg_t kw_331)) (fun _ h9 => h9) (cd := (1, 0, 2592)) rfl dK_publicLength_25 (fun v21 hv21 => ?_)
  obtain rfl := (show v21 = .int (nI 2592) from hv21)
  exact mp_iret hx hb hr hlk hP hD hS pl ⟨rfl, hO⟩ [0] rfl rfl rfl (by omega) (by omega) dK_publicLength_28
set_option maxHeartbeats 4000000 in
set_option maxRecDepth 100000 in
theorem t_K_secretLength_5 (l : Launch) (g : Gd) (sz : Nat) (T : Ty) (pl : va_W) (hO : okx g T [] pl) (hU : uni T) (h0 kt ka kp kks kds ksp kkm kda tl al pn : Nat) (k_kt : T kt = some (1, 16384)) (k_ka : T ka = some (1, 8192)) (k_kp : T kp = some (6, 0)) (k_kks : T kks = some (50, 0)) (k_kds : T kds = some (51, 0)) (k_ksp : T ksp = some (10, 0)) (k_kkm : T kkm = some (13, 0)) (k_kda : T kda = some (15, 0)) (hb : tl ≤ 16384 ∧ al ≤ 8192 ∧ pn ≤ 8)  : Met l y_K_secretLength w_K_secretLength ({ frames := 0, cells := 0, slots := 0, locals := 0 } : Room) (va_Pc [.ref h0, .int (nI 5)] (pr (en g) g.1 vcl sz ([(h0, .inr (0, [.ref kt, .int (nI tl), .ref ka, .int (nI al), .ref kp, .int (nI pn), .ref kks, .ref kds, .ref ksp, .ref kkm, .ref kda]))] ++ pl))) (va_Qi (fun (r : Int32) (u : va_W) => (r = nI 4896) ∧ okx g T [] u) (po g.1 vcl (va_A ([(h0, .inr (0, [.ref kt, .int (nI tl), .ref ka, .int (nI al), .ref kp, .int (nI pn), .ref kks, .ref kds, .ref ksp, .ref kkm, .ref kda]))] ++ pl) sz) (fun (u : va_W) => [(h0, .inr (0, [.ref kt, .int (nI tl), .ref ka, .int (nI al), .ref kp, .int (nI pn), .ref kks, .ref kds, .ref ksp, .ref kkm, .ref kda]))] ++ u)) (va_A ([(h0, .inr (0, [.ref kt, .int (nI tl), .ref ka, .int (nI al), .ref kp, .int (nI pn), .ref kks, .ref kds, .ref ksp, .ref kkm, .ref kda]))] ++ pl) sz)) 0 0 (va_A ([(h0, .inr (0, [.ref kt, .int (nI tl), .ref ka, .int (nI al), .ref kp, .int (nI pn), .ref kks, .ref kds, .ref ksp, .ref kkm, .ref kda]))] ++ pl) sz) := by
  refine mc_entry (cc := c_K_secretLength) (maxL := 2) (ret := (some .int)) (by decide) rfl (Nat.le_of_ble_eq_true rfl) ?_
  intro p e s m args below meth c ls F hr hlk hnm hsz hP hD hE hA hl
  obtain ⟨hx, hb, hml, hown, hts⟩ := id F
  have hK := hE.1
  generalize va_A ([(h0, .inr (0, [.ref kt, .int (nI tl), .ref ka, .int (nI al), .ref kp, .int (nI pn), .ref kks, .ref kds, .ref ksp, .ref kkm, .ref kda]))] ++ pl) sz = A at hD hE hA ⊢
  have hS : va_S A s.heap s.heap [] := va_S.rf
  have hl : lv_has ls 2 [(0, .ref h0), (1, .int (nI 5))] := hl
  refine lv_iload_n hx hb dK_secretLength_0 rfl (lv_at hl 1 rfl) ?_
  refine lv_iconst (v := nI 3) hx hb dK_secretLength_1 (by decide) ?_
  refine mi_ge (tgt := 17) hx hb dK_secretLength_2 (by decide) (by omega) (by omega) (fun h21 => ?_) (fun h21 => absurd h21 (by omega))
  refine lv_aload_n hx hb dK_secretLength_17 rfl (lv_at hl 0 rfl) ?_
  refine va_get (D := g.1) (ci := 0) (C := "LatticeKeys") (T := T_K) (N := 11) hx hb hts (wg_ft i_K) hown hK hP 0 rfl rfl 7 (by decide) (hts _ (wg_t kw_381)) (fun _ h9 => h9) rfl dK_secretLength_18 ?_
  refine lv_iload_n hx hb dK_secretLength_21 rfl (lv_at hl 1 rfl) ?_
  refine lv_iconst (v := nI 3) hx hb dK_secretLength_22 (by decide) ?_
  refine mi_isub hx hb dK_secretLength_23 (by omega) ?_
  refine mi_as (show nI (5 - 3) = nI 2 from rfl) ?_
  refine ty_aald51 hx hb hK hO k_kds (nxg clo_nil k_kds rfl) hP (by omega) dK_secretLength_24 (fun r21 kr21 => ?_)
  refine ty_get (ci := 2) (C := "LatticeKeys$DsaSet") (TT := T_DS) (N := 17) (kd := (45, 0)) hx hb hts (wg_ft i_DS) hown hK hO kr21 (nxg clo_nil kr21 rfl) hP (fun _ h9 => h9) rfl 14 (by decide) (hts _ (wg_t kw_333)) (fun _ h9 => h9) (cd := (1, 0, 4896)) rfl dK_secretLength_25 (fun v21 hv21 => ?_)
  obtain rfl := (show v21 = .int (nI 4896) from hv21)
  exact mp_iret hx hb hr hlk hP hD hS pl ⟨rfl, hO⟩ [0] rfl rfl rfl (by omega) (by omega) dK_secretLength_28
set_option maxHeartbeats 4000000 in
set_option maxRecDepth 100000 in
theorem t_K_seedLength_5 (l : Launch) (g : Gd) (sz : Nat) (T : Ty) (pl : va_W) (hO : okx g T [] pl) (hU : uni T)  : Met l y_K_seedLength w_K_seedLength ({ frames := 0, cells := 0, slots := 0, locals := 0 } : Room) (va_Pc [.int (nI 5)] (pr (en g) g.1 vcl sz ([] ++ pl))) (va_Qi (fun (r : Int32) (u : va_W) => (r = nI 32) ∧ okx g T [] u) (po g.1 vcl (va_A ([] ++ pl) sz) (fun (u : va_W) => [] ++ u)) (va_A ([] ++ pl) sz)) 0 0 (va_A ([] ++ pl) sz) := by
  refine mc_entry (cc := c_K_seedLength) (maxL := 1) (ret := (some .int)) (by decide) rfl (Nat.le_of_ble_eq_true rfl) ?_
  intro p e s m args below meth c ls F hr hlk hnm hsz hP hD hE hA hl
  obtain ⟨hx, hb, hml, hown, hts⟩ := id F
  have hK := hE.1
  generalize va_A ([] ++ pl) sz = A at hD hE hA ⊢
  have hS : va_S A s.heap s.heap [] := va_S.rf
  have hl : lv_has ls 1 [(0, .int (nI 5))] := hl
  refine lv_iload_n hx hb dK_seedLength_0 rfl (lv_at hl 0 rfl) ?_
  refine lv_iconst (v := nI 3) hx hb dK_seedLength_1 (by decide) ?_
  refine mi_ge (tgt := 10) hx hb dK_seedLength_2 (by decide) (by omega) (by omega) (fun h21 => ?_) (fun h21 => absurd h21 (by omega))
  refine lv_bipush (v := nI 32) hx hb dK_seedLength_10 (by decide) ?_
  exact mp_iret hx hb hr hlk hP hD hS pl ⟨rfl, hO⟩ [] rfl rfl rfl (by omega) (by omega) dK_seedLength_12
set_option maxHeartbeats 4000000 in
set_option maxRecDepth 100000 in
theorem t_K_isLoadable (l : Launch) (g : Gd) (sz : Nat) (T : Ty) (pl : va_W) (hO : okx g T [] pl) (hU : uni T) (v : Int32) (sc : Int32) (h0 kt ka kp kks kds ksp kkm kda tl al pn : Nat) (k_kt : T kt = some (1, 16384)) (k_ka : T ka = some (1, 8192)) (k_kp : T kp = some (6, 0)) (k_kks : T kks = some (50, 0)) (k_kds : T kds = some (51, 0)) (k_ksp : T ksp = some (10, 0)) (k_kkm : T kkm = some (13, 0)) (k_kda : T kda = some (15, 0)) (hb : tl ≤ 16384 ∧ al ≤ 8192 ∧ pn ≤ 8)  : Met l y_K_isLoadable w_K_isLoadable ({ frames := 1, cells := 0, slots := 0, locals := 21 } : Room) (va_Pc [.ref h0, .int v, .int sc] (pr (en g) g.1 vcl sz ([(h0, .inr (0, [.ref kt, .int (nI tl), .ref ka, .int (nI al), .ref kp, .int (nI pn), .ref kks, .ref kds, .ref ksp, .ref kkm, .ref kda]))] ++ pl))) (va_Qi (fun (r : Int32) (u : va_W) => (r = nI 0 ∨ (r = nI 1 ∧ ∃ j : Nat, j < 6 ∧ v = nI j ∧ ((sc = nI 0 ∧ tl = kpub j) ∨ (¬ sc = 0 ∧ j < 3 ∧ tl = ksec j)))) ∧ okx g T [] u) (po g.1 vcl (va_A ([(h0, .inr (0, [.ref kt, .int (nI tl), .ref ka, .int (nI al), .ref kp, .int (nI pn), .ref kks, .ref kds, .ref ksp, .ref kkm, .ref kda]))] ++ pl) sz) (fun (u : va_W) => [(h0, .inr (0, [.ref kt, .int (nI tl), .ref ka, .int (nI al), .ref kp, .int (nI pn), .ref kks, .ref kds, .ref ksp, .ref kkm, .ref kda]))] ++ u)) (va_A ([(h0, .inr (0, [.ref kt, .int (nI tl), .ref ka, .int (nI al), .ref kp, .int (nI pn), .ref kks, .ref kds, .ref ksp, .ref kkm, .ref kda]))] ++ pl) sz)) 0 0 (va_A ([(h0, .inr (0, [.ref kt, .int (nI tl), .ref ka, .int (nI al), .ref kp, .int (nI pn), .ref kks, .ref kds, .ref ksp, .ref kkm, .ref kda]))] ++ pl) sz) := by
  refine mc_entry (cc := c_K_isLoadable) (maxL := 3) (ret := (some .boolean)) (by decide) rfl (Nat.le_of_ble_eq_true rfl) ?_
  intro p e s m args below meth c ls F hr hlk hnm hsz hP hD hE hA hl
  obtain ⟨hx, hb, hml, hown, hts⟩ := id F
  have hK := hE.1
  generalize va_A ([(h0, .inr (0, [.ref kt, .int (nI tl), .ref ka, .int (nI al), .ref kp, .int (nI pn), .ref kks, .ref kds, .ref ksp, .ref kkm, .ref kda]))] ++ pl) sz = A at hD hE hA ⊢
  have hS : va_S A s.heap s.heap [] := va_S.rf
  have hl : lv_has ls 3 [(0, .ref h0), (1, .int v), (2, .int sc)] := hl
  rcases eq0 (v := sc) with hs9 | hs9
  · obtain rfl := hs9
    refine lv_iload_n hx hb dK_isLoadable_0 rfl (lv_at hl 1 rfl) ?_
    refine mp_i (cx := []) (wr := [(h0, .inr (0, [.ref kt, .int (nI tl), .ref ka, .int (nI al), .ref kp, .int (nI pn), .ref kks, .ref kds, .ref ksp, .ref kkm, .ref kda]))]) hP hD hS hA [] [0] rfl rfl rfl (by decide) (va_runS (As := [.int v]) (rest := []) F (t_K_isSet l g _ T  pl hO hU  v) (va_cwS 1 hts (wg_app (wg_c kw_558 (wg_c kw_559 (wg_c kw_1 wg_n))) kw_560) rfl rfl rfl (by decide +kernel) ⟨by decide, by decide⟩) (pp_S (en_ok g) hP hD hS hA hE [] rfl rfl) rfl rfl hl.1 rfl (lv_room (Nat.le_of_ble_eq_true rfl)) dK_isLoadable_1 ⟨by omega, by omega⟩) (fun r21 pl H locs hu21 hP hD hS => ?_)
    obtain ⟨hq21, hO⟩ := hu21
    have hP : va_P g.1 vcl ([(h0, .inr (0, [.ref kt, .int (nI tl), .ref ka, .int (nI al), .ref kp, .int (nI pn), .ref kks, .ref kds, .ref ksp, .ref kkm, .ref kda]))] ++ pl) _ := hP
    have hD : va_D _ ([(h0, .inr (0, [.ref kt, .int (nI tl), .ref ka, .int (nI al), .ref kp, .int (nI pn), .ref kks, .ref kds, .ref ksp, .ref kkm, .ref kda]))] ++ pl) := hD
    refine W.widen (k := 0) (n := 0) (by omega) (by omega) ?_
    rcases hq21 with hq21 | hq21
    · obtain ⟨rfl, hbad⟩ := hq21
      refine lv_if_eq (tgt := 16) hx hb dK_isLoadable_4 (by decide) (fun h21 => ?_) (fun h21 => absurd h21 (by decide))
      refine lv_iconst (v := nI 0) hx hb dK_isLoadable_16 (by decide) ?_
      exact mp_zret hx hb hr hlk rfl hP hD hS pl ⟨(Or.inl rfl), hO⟩ [0] rfl rfl rfl (by omega) (by omega) dK_isLoadable_17
    · obtain ⟨rfl, j9, hj9, rfl⟩ := hq21
      match j9, hj9 with
      | 0, _ =>
        refine lv_if_eq (tgt := 16) hx hb dK_isLoadable_4 (by decide) (fun h22 => absurd h22 (by decide)) (fun h22 => ?_)
        refine lv_iload_n hx hb dK_isLoadable_7 rfl (lv_at hl 2 rfl) ?_
        refine lv_if_eq (tgt := 18) hx hb dK_isLoadable_8 (by decide) (fun h23 => ?_) (fun h23 => absurd h23 (by decide))
        refine lv_aload_n hx hb dK_isLoadable_18 rfl (lv_at hl 0 rfl) ?_
        refine va_get (D := g.1) (ci := 0) (C := "LatticeKeys") (T := T_K) (N := 11) hx hb hts (wg_ft i_K) hown hK hP 0 rfl rfl 1 (by decide) (hts _ (wg_t kw_375)) (fun _ h9 => h9) rfl dK_isLoadable_19 ?_
        refine lv_iload_n hx hb dK_isLoadable_22 rfl (lv_at hl 2 rfl) ?_
        refine lv_if_eq (tgt := 34) hx hb dK_isLoadable_23 (by decide) (fun h24 => ?_) (fun h24 => absurd h24 (by decide))
        refine lv_aload_n hx hb dK_isLoadable_34 rfl (lv_at hl 0 rfl) ?_
        refine lv_iload_n hx hb dK_isLoadable_35 rfl (lv_at hl 1 rfl) ?_
        refine mp_i (cx := [(h0, .inr (0, [.ref kt, .int (nI tl), .ref ka, .int (nI al), .ref kp, .int (nI pn), .ref kks, .ref kds, .ref ksp, .ref kkm, .ref kda]))]) (wr := []) hP hD hS hA [0] [] rfl rfl rfl (by decide) (va_runV (As := [.int (nI 0)]) (rest := [.int (nI tl)]) F (t_K_publicLength_0 l g _ T  pl hO hU  h0 kt ka kp kks kds ksp kkm kda tl al pn k_kt k_ka k_kp k_kks k_kds k_ksp k_kkm k_kda (by omega)) (cwV 1 hts (wg_app (wg_c kw_566 (wg_c kw_568 (wg_c ks_2 (wg_c kw_1 wg_n)))) kw_569) rfl rfl rfl (by decide +kernel) ⟨by decide, by decide⟩) (pp_V (en_ok g) (q0 := 0) hK hP hD hS hA hE [0] rfl rfl rfl rfl) rfl rfl hl.1 rfl (lv_room (Nat.le_of_ble_eq_true rfl)) dK_isLoadable_36 ⟨by omega, by omega⟩) (fun r22 pl H locs hu22 hP hD hS => ?_)
        obtain ⟨hq22, hO⟩ := hu22
        have hP : va_P g.1 vcl ([(h0, .inr (0, [.ref kt, .int (nI tl), .ref ka, .int (nI al), .ref kp, .int (nI pn), .ref kks, .ref kds, .ref ksp, .ref kkm, .ref kda]))] ++ pl) _ := hP
        have hD : va_D _ ([(h0, .inr (0, [.ref kt, .int (nI tl), .ref ka, .int (nI al), .ref kp, .int (nI pn), .ref kks, .ref kds, .ref ksp, .ref kkm, .ref kda]))] ++ pl) := hD
        obtain rfl := hq22
        refine W.widen (k := 0) (n := 0) (by omega) (by omega) ?_
        refine mi_ne (tgt := 46) hx hb dK_isLoadable_39 (by decide) (by omega) (by omega) (fun h25 => ?_) (fun h25 => ?_)
        · refine lv_iconst (v := nI 0) hx hb dK_isLoadable_46 (by decide) ?_
          exact mp_zret hx hb hr hlk rfl hP hD hS pl ⟨(Or.inl rfl), hO⟩ [0] rfl rfl rfl (by omega) (by omega) dK_isLoadable_47
        · refine lv_iconst (v := nI 1) hx hb dK_isLoadable_42 (by decide) ?_
          refine lv_goto (tgt := 47) hx hb dK_isLoadable_43 (by decide) ?_
          exact mp_zret hx hb hr hlk rfl hP hD hS pl ⟨(Or.inr ⟨rfl, 0, by omega, rfl, (Or.inl ⟨rfl, (by show tl = 800; omega)⟩)⟩), hO⟩ [0] rfl rfl rfl (by omega) (by omega) dK_isLoadable_47
      | 1, _ =>
        refine lv_if_eq (tgt := 16) hx hb dK_isLoadable_4 (by decide) (fun h26 => absurd h26 (by decide)) (fun h26 => ?_)
        refine lv_iload_n hx hb dK_isLoadable_7 rfl (lv_at hl 2 rfl) ?_
        refine lv_if_eq (tgt := 18) hx hb dK_isLoadable_8 (by decide) (fun h27 => ?_) (fun h27 => absurd h27 (by decide))
        refine lv_aload_n hx hb dK_isLoadable_18 rfl (lv_at hl 0 rfl) ?_
        refine va_get (D := g.1) (ci := 0) (C := "LatticeKeys") (T := T_K) (N := 11) hx hb hts (wg_ft i_K) hown hK hP 0 rfl rfl 1 (by decide) (hts _ (wg_t kw_375)) (fun _ h9 => h9) rfl dK_isLoadable_19 ?_
        refine lv_iload_n hx hb dK_isLoadable_22 rfl (lv_at hl 2 rfl) ?_
        refine lv_if_eq (tgt := 34) hx hb dK_isLoadable_23 (by decide) (fun h28 => ?_) (fun h28 => absurd h28 (by decide))
        refine lv_aload_n hx hb dK_isLoadable_34 rfl (lv_at hl 0 rfl) ?_
        refine lv_iload_n hx hb dK_isLoadable_35 rfl (lv_at hl 1 rfl) ?_
        refine mp_i (cx := [(h0, .inr (0, [.ref kt, .int (nI tl), .ref ka, .int (nI al), .ref kp, .int (nI pn), .ref kks, .ref kds, .ref ksp, .ref kkm, .ref kda]))]) (wr := []) hP hD hS hA [0] [] rfl rfl rfl (by decide) (va_runV (As := [.int (nI 1)]) (rest := [.int (nI tl)]) F (t_K_publicLength_1 l g _ T  pl hO hU  h0 kt ka kp kks kds ksp kkm kda tl al pn k_kt k_ka k_kp k_kks k_kds k_ksp k_kkm k_kda (by omega)) (cwV 1 hts (wg_app (wg_c kw_566 (wg_c kw_568 (wg_c ks_2 (wg_c kw_1 wg_n)))) kw_569) rfl rfl rfl (by decide +kernel) ⟨by decide, by decide⟩) (pp_V (en_ok g) (q0 := 0) hK hP hD hS hA hE [0] rfl rfl rfl rfl) rfl rfl hl.1 rfl (lv_room (Nat.le_of_ble_eq_true rfl)) dK_isLoadable_36 ⟨by omega, by omega⟩) (fun r23 pl H locs hu23 hP hD hS => ?_)
        obtain ⟨hq23, hO⟩ := hu23
        have hP : va_P g.1 vcl ([(h0, .inr (0, [.ref kt, .int (nI tl), .ref ka, .int (nI al), .ref kp, .int (nI pn), .ref kks, .ref kds, .ref ksp, .ref kkm, .ref kda]))] ++ pl) _ := hP
        have hD : va_D _ ([(h0, .inr (0, [.ref kt, .int (nI tl), .ref ka, .int (nI al), .ref kp, .int (nI pn), .ref kks, .ref kds, .ref ksp, .ref kkm, .ref kda]))] ++ pl) := hD
        obtain rfl := hq23
        refine W.widen (k := 0) (n := 0) (by omega) (by omega) ?_
        refine mi_ne (tgt := 46) hx hb dK_isLoadable_39 (by decide) (by omega) (by omega) (fun h29 => ?_) (fun h29 => ?_)
        · refine lv_iconst (v := nI 0) hx hb dK_isLoadable_46 (by decide) ?_
          exact mp_zret hx hb hr hlk rfl hP hD hS pl ⟨(Or.inl rfl), hO⟩ [0] rfl rfl rfl (by omega) (by omega) dK_isLoadable_47
        · refine lv_iconst (v := nI 1) hx hb dK_isLoadable_42 (by decide) ?_
          refine lv_goto (tgt := 47) hx hb dK_isLoadable_43 (by decide) ?_
          exact mp_zret hx hb hr hlk rfl hP hD hS pl ⟨(Or.inr ⟨rfl, 1, by omega, rfl, (Or.inl ⟨rfl, (by show tl = 1184; omega)⟩)⟩), hO⟩ [0] rfl rfl rfl (by omega) (by omega) dK_isLoadable_47
      | 2, _ =>
        refine lv_if_eq (tgt := 16) hx hb dK_isLoadable_4 (by decide) (fun h30 => absurd h30 (by decide)) (fun h30 => ?_)
        refine lv_iload_n hx hb dK_isLoadable_7 rfl (lv_at hl 2 rfl) ?_
        refine lv_if_eq (tgt := 18) hx hb dK_isLoadable_8 (by decide) (fun h31 => ?_) (fun h31 => absurd h31 (by decide))
        refine lv_aload_n hx hb dK_isLoadable_18 rfl (lv_at hl 0 rfl) ?_
        refine va_get (D := g.1) (ci := 0) (C := "LatticeKeys") (T := T_K) (N := 11) hx hb hts (wg_ft i_K) hown hK hP 0 rfl rfl 1 (by decide) (hts _ (wg_t kw_375)) (fun _ h9 => h9) rfl dK_isLoadable_19 ?_
        refine lv_iload_n hx hb dK_isLoadable_22 rfl (lv_at hl 2 rfl) ?_
        refine lv_if_eq (tgt := 34) hx hb dK_isLoadable_23 (by decide) (fun h32 => ?_) (fun h32 => absurd h32 (by decide))
        refine lv_aload_n hx hb dK_isLoadable_34 rfl (lv_at hl 0 rfl) ?_
        refine lv_iload_n hx hb dK_isLoadable_35 rfl (lv_at hl 1 rfl) ?_
        refine mp_i (cx := [(h0, .inr (0, [.ref kt, .int (nI tl), .ref ka, .int (nI al), .ref kp, .int (nI pn), .ref kks, .ref kds, .ref ksp, .ref kkm, .ref kda]))]) (wr := []) hP hD hS hA [0] [] rfl rfl rfl (by decide) (va_runV (As := [.int (nI 2)]) (rest := [.int (nI tl)]) F (t_K_publicLength_2 l g _ T  pl hO hU  h0 kt ka kp kks kds ksp kkm kda tl al pn k_kt k_ka k_kp k_kks k_kds k_ksp k_kkm k_kda (by omega)) (cwV 1 hts (wg_app (wg_c kw_566 (wg_c kw_568 (wg_c ks_2 (wg_c kw_1 wg_n)))) kw_569) rfl rfl rfl (by decide +kernel) ⟨by decide, by decide⟩) (pp_V (en_ok g) (q0 := 0) hK hP hD hS hA hE [0] rfl rfl rfl rfl) rfl rfl hl.1 rfl (lv_room (Nat.le_of_ble_eq_true rfl)) dK_isLoadable_36 ⟨by omega, by omega⟩) (fun r24 pl H locs hu24 hP hD hS => ?_)
        obtain ⟨hq24, hO⟩ := hu24
        have hP : va_P g.1 vcl ([(h0, .inr (0, [.ref kt, .int (nI tl), .ref ka, .int (nI al), .ref kp, .int (nI pn), .ref kks, .ref kds, .ref ksp, .ref kkm, .ref kda]))] ++ pl) _ := hP
        have hD : va_D _ ([(h0, .inr (0, [.ref kt, .int (nI tl), .ref ka, .int (nI al), .ref kp, .int (nI pn), .ref kks, .ref kds, .ref ksp, .ref kkm, .ref kda]))] ++ pl) := hD
        obtain rfl := hq24
        refine W.widen (k := 0) (n := 0) (by omega) (by omega) ?_
        refine mi_ne (tgt := 46) hx hb dK_isLoadable_39 (by decide) (by omega) (by omega) (fun h33 => ?_) (fun h33 => ?_)
        · refine lv_iconst (v := nI 0) hx hb dK_isLoadable_46 (by decide) ?_
          exact mp_zret hx hb hr hlk rfl hP hD hS pl ⟨(Or.inl rfl), hO⟩ [0] rfl rfl rfl (by omega) (by omega) dK_isLoadable_47
        · refine lv_iconst (v := nI 1) hx hb dK_isLoadable_42 (by decide) ?_
          refine lv_goto (tgt := 47) hx hb dK_isLoadable_43 (by decide) ?_
          exact mp_zret hx hb hr hlk rfl hP hD hS pl ⟨(Or.inr ⟨rfl, 2, by omega, rfl, (Or.inl ⟨rfl, (by show tl = 1568; omega)⟩)⟩), hO⟩ [0] rfl rfl rfl (by omega) (by omega) dK_isLoadable_47
      | 3, _ =>
        refine lv_if_eq (tgt := 16) hx hb dK_isLoadable_4 (by decide) (fun h34 => absurd h34 (by decide)) (fun h34 => ?_)
        refine lv_iload_n hx hb dK_isLoadable_7 rfl (lv_at hl 2 rfl) ?_
        refine lv_if_eq (tgt := 18) hx hb dK_isLoadable_8 (by decide) (fun h35 => ?_) (fun h35 => absurd h35 (by decide))
        refine lv_aload_n hx hb dK_isLoadable_18 rfl (lv_at hl 0 rfl) ?_
        refine va_get (D := g.1) (ci := 0) (C := "LatticeKeys") (T := T_K) (N := 11) hx hb hts (wg_ft i_K) hown hK hP 0 rfl rfl 1 (by decide) (hts _ (wg_t kw_375)) (fun _ h9 => h9) rfl dK_isLoadable_19 ?_
        refine lv_iload_n hx hb dK_isLoadable_22 rfl (lv_at hl 2 rfl) ?_
        refine lv_if_eq (tgt := 34) hx hb dK_isLoadable_23 (by decide) (fun h36 => ?_) (fun h36 => absurd h36 (by decide))
        refine lv_aload_n hx hb dK_isLoadable_34 rfl (lv_at hl 0 rfl) ?_
        refine lv_iload_n hx hb dK_isLoadable_35 rfl (lv_at hl 1 rfl) ?_
        refine mp_i (cx := [(h0, .inr (0, [.ref kt, .int (nI tl), .ref ka, .int (nI al), .ref kp, .int (nI pn), .ref kks, .ref kds, .ref ksp, .ref kkm, .ref kda]))]) (wr := []) hP hD hS hA [0] [] rfl rfl rfl (by decide) (va_runV (As := [.int (nI 3)]) (rest := [.int (nI tl)]) F (t_K_publicLength_3 l g _ T  pl hO hU  h0 kt ka kp kks kds ksp kkm kda tl al pn k_kt k_ka k_kp k_kks k_kds k_ksp k_kkm k_kda (by omega)) (cwV 1 hts (wg_app (wg_c kw_566 (wg_c kw_568 (wg_c ks_2 (wg_c kw_1 wg_n)))) kw_569) rfl rfl rfl (by decide +kernel) ⟨by decide, by decide⟩) (pp_V (en_ok g) (q0 := 0) hK hP hD hS hA hE [0] rfl rfl rfl rfl) rfl rfl hl.1 rfl (lv_room (Nat.le_of_ble_eq_true rfl)) dK_isLoadable_36 ⟨by omega, by omega⟩) (fun r25 pl H locs hu25 hP hD hS => ?_)
        obtain ⟨hq25, hO⟩ := hu25
        have hP : va_P g.1 vcl ([(h0, .inr (0, [.ref kt, .int (nI tl), .ref ka, .int (nI al), .ref kp, .int (nI pn), .ref kks, .ref kds, .ref ksp, .ref kkm, .ref kda]))] ++ pl) _ := hP
        have hD : va_D _ ([(h0, .inr (0, [.ref kt, .int (nI tl), .ref ka, .int (nI al), .ref kp, .int (nI pn), .ref kks, .ref kds, .ref ksp, .ref kkm, .ref kda]))] ++ pl) := hD
        obtain rfl := hq25
        refine W.widen (k := 0) (n := 0) (by omega) (by omega) ?_
        refine mi_ne (tgt := 46) hx hb dK_isLoadable_39 (by decide) (by omega) (by omega) (fun h37 => ?_) (fun h37 => ?_)
        · refine lv_iconst (v := nI 0) hx hb dK_isLoadable_46 (by decide) ?_
          exact mp_zret hx hb hr hlk rfl hP hD hS pl ⟨(Or.inl rfl), hO⟩ [0] rfl rfl rfl (by omega) (by omega) dK_isLoadable_47
        · refine lv_iconst (v := nI 1) hx hb dK_isLoadable_42 (by decide) ?_
          refine lv_goto (tgt := 47) hx hb dK_isLoadable_43 (by decide) ?_
          exact mp_zret hx hb hr hlk rfl hP hD hS pl ⟨(Or.inr ⟨rfl, 3, by omega, rfl, (Or.inl ⟨rfl, (by show tl = 1312; omega)⟩)⟩), hO⟩ [0] rfl rfl rfl (by omega) (by omega) dK_isLoadable_47
      | 4, _ =>
        refine lv_if_eq (tgt := 16) hx hb dK_isLoadable_4 (by decide) (fun h38 => absurd h38 (by decide)) (fun h38 => ?_)
        refine lv_iload_n hx hb dK_isLoadable_7 rfl (lv_at hl 2 rfl) ?_
        refine lv_if_eq (tgt := 18) hx hb dK_isLoadable_8 (by decide) (fun h39 => ?_) (fun h39 => absurd h39 (by decide))
        refine lv_aload_n hx hb dK_isLoadable_18 rfl (lv_at hl 0 rfl) ?_
        refine va_get (D := g.1) (ci := 0) (C := "LatticeKeys") (T := T_K) (N := 11) hx hb hts (wg_ft i_K) hown hK hP 0 rfl rfl 1 (by decide) (hts _ (wg_t kw_375)) (fun _ h9 => h9) rfl dK_isLoadable_19 ?_
        refine lv_iload_n hx hb dK_isLoadable_22 rfl (lv_at hl 2 rfl) ?_
        refine lv_if_eq (tgt := 34) hx hb dK_isLoadable_23 (by decide) (fun h40 => ?_) (fun h40 => absurd h40 (by decide))
        refine lv_aload_n hx hb dK_isLoadable_34 rfl (lv_at hl 0 rfl) ?_
        refine lv_iload_n hx hb dK_isLoadable_35 rfl (lv_at hl 1 rfl) ?_
        refine mp_i (cx := [(h0, .inr (0, [.ref kt, .int (nI tl), .ref ka, .int (nI al), .ref kp, .int (nI pn), .ref kks, .ref kds, .ref ksp, .ref kkm, .ref kda]))]) (wr := []) hP hD hS hA [0] [] rfl rfl rfl (by decide) (va_runV (As := [.int (nI 4)]) (rest := [.int (nI tl)]) F (t_K_publicLength_4 l g _ T  pl hO hU  h0 kt ka kp kks kds ksp kkm kda tl al pn k_kt k_ka k_kp k_kks k_kds k_ksp k_kkm k_kda (by omega)) (cwV 1 hts (wg_app (wg_c kw_566 (wg_c kw_568 (wg_c ks_2 (wg_c kw_1 wg_n)))) kw_569) rfl rfl rfl (by decide +kernel) ⟨by decide, by decide⟩) (pp_V (en_ok g) (q0 := 0) hK hP hD hS hA hE [0] rfl rfl rfl rfl) rfl rfl hl.1 rfl (lv_room (Nat.le_of_ble_eq_true rfl)) dK_isLoadable_36 ⟨by omega, by omega⟩) (fun r26 pl H locs hu26 hP hD hS => ?_)
        obtain ⟨hq26, hO⟩ := hu26
        have hP : va_P g.1 vcl ([(h0, .inr (0, [.ref kt, .int (nI tl), .ref ka, .int (nI al), .ref kp, .int (nI pn), .ref kks, .ref kds, .ref ksp, .ref kkm, .ref kda]))] ++ pl) _ := hP
        have hD : va_D _ ([(h0, .inr (0, [.ref kt, .int (nI tl), .ref ka, .int (nI al), .ref kp, .int (nI pn), .ref kks, .ref kds, .ref ksp, .ref kkm, .ref kda]))] ++ pl) := hD
        obtain rfl := hq26
        refine W.widen (k := 0) (n := 0) (by omega) (by omega) ?_
        refine mi_ne (tgt := 46) hx hb dK_isLoadable_39 (by decide) (by omega) (by omega) (fun h41 => ?_) (fun h41 => ?_)
        · refine lv_iconst (v := nI 0) hx hb dK_isLoadable_46 (by decide) ?_
          exact mp_zret hx hb hr hlk rfl hP hD hS pl ⟨(Or.inl rfl), hO⟩ [0] rfl rfl rfl (by omega) (by omega) dK_isLoadable_47
        · refine lv_iconst (v := nI 1) hx hb dK_isLoadable_42 (by decide) ?_
          refine lv_goto (tgt := 47) hx hb dK_isLoadable_43 (by decide) ?_
          exact mp_zret hx hb hr hlk rfl hP hD hS pl ⟨(Or.inr ⟨rfl, 4, by omega, rfl, (Or.inl ⟨rfl, (by show tl = 1952; omega)⟩)⟩), hO⟩ [0] rfl rfl rfl (by omega) (by omega) dK_isLoadable_47
      | 5, _ =>
        refine lv_if_eq (tgt := 16) hx hb dK_isLoadable_4 (by decide) (fun h42 => absurd h42 (by decide)) (fun h42 => ?_)
        refine lv_iload_n hx hb dK_isLoadable_7 rfl (lv_at hl 2 rfl) ?_
        refine lv_if_eq (tgt := 18) hx hb dK_isLoadable_8 (by decide) (fun h43 => ?_) (fun h43 => absurd h43 (by decide))
        refine lv_aload_n hx hb dK_isLoadable_18 rfl (lv_at hl 0 rfl) ?_
        refine va_get (D := g.1) (ci := 0) (C := "LatticeKeys") (T := T_K) (N := 11) hx hb hts (wg_ft i_K) hown hK hP 0 rfl rfl 1 (by decide) (hts _ (wg_t kw_375)) (fun _ h9 => h9) rfl dK_isLoadable_19 ?_
        refine lv_iload_n hx hb dK_isLoadable_22 rfl (lv_at hl 2 rfl) ?_
        refine lv_if_eq (tgt := 34) hx hb dK_isLoadable_23 (by decide) (fun h44 => ?_) (fun h44 => absurd h44 (by decide))
        refine lv_aload_n hx hb dK_isLoadable_34 rfl (lv_at hl 0 rfl) ?_
        refine lv_iload_n hx hb dK_isLoadable_35 rfl (lv_at hl 1 rfl) ?_
        refine mp_i (cx := [(h0, .inr (0, [.ref kt, .int (nI tl), .ref ka, .int (nI al), .ref kp, .int (nI pn), .ref kks, .ref kds, .ref ksp, .ref kkm, .ref kda]))]) (wr := []) hP hD hS hA [0] [] rfl rfl rfl (by decide) (va_runV (As := [.int (nI 5)]) (rest := [.int (nI tl)]) F (t_K_publicLength_5 l g _ T  pl hO hU  h0 kt ka kp kks kds ksp kkm kda tl al pn k_kt k_ka k_kp k_kks k_kds k_ksp k_kkm k_kda (by omega)) (cwV 1 hts (wg_app (wg_c kw_566 (wg_c kw_568 (wg_c ks_2 (wg_c kw_1 wg_n)))) kw_569) rfl rfl rfl (by decide +kernel) ⟨by decide, by decide⟩) (pp_V (en_ok g) (q0 := 0) hK hP hD hS hA hE [0] rfl rfl rfl rfl) rfl rfl hl.1 rfl (lv_room (Nat.le_of_ble_eq_true rfl)) dK_isLoadable_36 ⟨by omega, by omega⟩) (fun r27 pl H locs hu27 hP hD hS => ?_)
        obtain ⟨hq27, hO⟩ := hu27
        have hP : va_P g.1 vcl ([(h0, .inr (0, [.ref kt, .int (nI tl), .ref ka, .int (nI al), .ref kp, .int (nI pn), .ref kks, .ref kds, .ref ksp, .ref kkm, .ref kda]))] ++ pl) _ := hP
        have hD : va_D _ ([(h0, .inr (0, [.ref kt, .int (nI tl), .ref ka, .int (nI al), .ref kp, .int (nI pn), .ref kks, .ref kds, .ref ksp, .ref kkm, .ref kda]))] ++ pl) := hD
        obtain rfl := hq27
        refine W.widen (k := 0) (n := 0) (by omega) (by omega) ?_
        refine mi_ne (tgt := 46) hx hb dK_isLoadable_39 (by decide) (by omega) (by omega) (fun h45 => ?_) (fun h45 => ?_)
        · refine lv_iconst (v := nI 0) hx hb dK_isLoadable_46 (by decide) ?_
          exact mp_zret hx hb hr hlk rfl hP hD hS pl ⟨(Or.inl rfl), hO⟩ [0] rfl rfl rfl (by omega) (by omega) dK_isLoadable_47
        · refine lv_iconst (v := nI 1) hx hb dK_isLoadable_42 (by decide) ?_
          refine lv_goto (tgt := 47) hx hb dK_isLoadable_43 (by decide) ?_
          exact mp_zret hx hb hr hlk rfl hP hD hS pl ⟨(Or.inr ⟨rfl, 5, by omega, rfl, (Or.inl ⟨rfl, (by show tl = 2592; omega)⟩)⟩), hO⟩ [0] rfl rfl rfl (by omega) (by omega) dK_isLoadable_47
      | _ + 6, h9 => exact absurd h9 (by omega)
  · have hsc := hs9
    refine lv_iload_n hx hb dK_isLoadable_0 rfl (lv_at hl 1 rfl) ?_
    refine mp_i (cx := []) (wr := [(h0, .inr (0, [.ref kt, .int (nI tl), .ref ka, .int (nI al), .ref kp, .int (nI pn), .ref kks, .ref kds, .ref ksp, .ref kkm, .ref kda]))]) hP hD hS hA [] [0] rfl rfl rfl (by decide) (va_runS (As := [.int v]) (rest := []) F (t_K_isSet l g _ T  pl hO hU  v) (va_cwS 1 hts (wg_app (wg_c kw_558 (wg_c kw_559 (wg_c kw_1 wg_n))) kw_560) rfl rfl rfl (by decide +kernel) ⟨by decide, by decide⟩) (pp_S (en_ok g) hP hD hS hA hE [] rfl rfl) rfl rfl hl.1 rfl (lv_room (Nat.le_of_ble_eq_true rfl)) dK_isLoadable_1 ⟨by omega, by omega⟩) (fun r28 pl H locs hu28 hP hD hS => ?_)
    obtain ⟨hq28, hO⟩ := hu28
    have hP : va_P g.1 vcl ([(h0, .inr (0, [.ref kt, .int (nI tl), .ref ka, .int (nI al), .ref kp, .int (nI pn), .ref kks, .ref kds, .ref ksp, .ref kkm, .ref kda]))] ++ pl) _ := hP
    have hD : va_D _ ([(h0, .inr (0, [.ref kt, .int (nI tl), .ref ka, .int (nI al), .ref kp, .int (nI pn), .ref kks, .ref kds, .ref ksp, .ref kkm, .ref kda]))] ++ pl) := hD
    refine W.widen (k := 0) (n := 0) (by omega) (by omega) ?_
    rcases hq28 with hq28 | hq28
    · obtain ⟨rfl, hbad⟩ := hq28
      refine lv_if_eq (tgt := 16) hx hb dK_isLoadable_4 (by decide) (fun h46 => ?_) (fun h46 => absurd h46 (by decide))
      refine lv_iconst (v := nI 0) hx hb dK_isLoadable_16 (by decide) ?_
      exact mp_zret hx hb hr hlk rfl hP hD hS pl ⟨(Or.inl rfl), hO⟩ [0] rfl rfl rfl (by omega) (by omega) dK_isLoadable_17
    · obtain ⟨rfl, j9, hj9, rfl⟩ := hq28
      match j9, hj9 with
      | 0, _ =>
        refine lv_if_eq (tgt := 16) hx hb dK_isLoadable_4 (by decide) (fun h47 => absurd h47 (by decide)) (fun h47 => ?_)
        refine lv_iload_n hx hb dK_isLoadable_7 rfl (lv_at hl 2 rfl) ?_
        refine lv_if_eq (tgt := 18) hx hb dK_isLoadable_8 (by decide) (fun h9 => absurd h9 hsc) (fun h9 => ?_)
        refine lv_iload_n hx hb dK_isLoadable_11 rfl (lv_at hl 1 rfl) ?_
        refine lv_iconst (v := nI 3) hx hb dK_isLoadable_12 (by decide) ?_
        refine mi_lt (tgt := 18) hx hb dK_isLoadable_13 (by decide) (by omega) (by omega) (fun h48 => ?_) (fun h48 => absurd h48 (by omega))
        refine lv_aload_n hx hb dK_isLoadable_18 rfl (lv_at hl 0 rfl) ?_
        refine va_get (D := g.1) (ci := 0) (C := "LatticeKeys") (T := T_K) (N := 11) hx hb hts (wg_ft i_K) hown hK hP 0 rfl rfl 1 (by decide) (hts _ (wg_t kw_375)) (fun _ h9 => h9) rfl dK_isLoadable_19 ?_
        refine lv_iload_n hx hb dK_isLoadable_22 rfl (lv_at hl 2 rfl) ?_
        refine lv_if_eq (tgt := 34) hx hb dK_isLoadable_23 (by decide) (fun h9 => absurd h9 hsc) (fun h9 => ?_)
        refine lv_aload_n hx hb dK_isLoadable_26 rfl (lv_at hl 0 rfl) ?_
        refine lv_iload_n hx hb dK_isLoadable_27 rfl (lv_at hl 1 rfl) ?_
        refine mp_i (cx := [(h0, .inr (0, [.ref kt, .int (nI tl), .ref ka, .int (nI al), .ref kp, .int (nI pn), .ref kks, .ref kds, .ref ksp, .ref kkm, .ref kda]))]) (wr := []) hP hD hS hA [0] [] rfl rfl rfl (by decide) (va_runV (As := [.int (nI 0)]) (rest := [.int (nI tl)]) F (t_K_secretLength_0 l g _ T  pl hO hU  h0 kt ka kp kks kds ksp kkm kda tl al pn k_kt k_ka k_kp k_kks k_kds k_ksp k_kkm k_kda (by omega)) (cwV 1 hts (wg_app (wg_c kw_570 (wg_c kw_572 (wg_c ks_3 (wg_c kw_1 wg_n)))) kw_573) rfl rfl rfl (by decide +kernel) ⟨by decide, by decide⟩) (pp_V (en_ok g) (q0 := 0) hK hP hD hS hA hE [0] rfl rfl rfl rfl) rfl rfl hl.1 rfl (lv_room (Nat.le_of_ble_eq_true rfl)) dK_isLoadable_28 ⟨by omega, by omega⟩) (fun r29 pl H locs hu29 hP hD hS => ?_)
        obtain ⟨hq29, hO⟩ := hu29
        have hP : va_P g.1 vcl ([(h0, .inr (0, [.ref kt, .int (nI tl), .ref ka, .int (nI al), .ref kp, .int (nI pn), .ref kks, .ref kds, .ref ksp, .ref kkm, .ref kda]))] ++ pl) _ := hP
        have hD : va_D _ ([(h0, .inr (0, [.ref kt, .int (nI tl), .ref ka, .int (nI al), .ref kp, .int (nI pn), .ref kks, .ref kds, .ref ksp, .ref kkm, .ref kda]))] ++ pl) := hD
        obtain rfl := hq29
        refine W.widen (k := 0) (n := 0) (by omega) (by omega) ?_
        refine lv_goto (tgt := 39) hx hb dK_isLoadable_31 (by decide) ?_
        refine mi_ne (tgt := 46) hx hb dK_isLoadable_39 (by decide) (by omega) (by omega) (fun h49 => ?_) (fun h49 => ?_)
        · refine lv_iconst (v := nI 0) hx hb dK_isLoadable_46 (by decide) ?_
          exact mp_zret hx hb hr hlk rfl hP hD hS pl ⟨(Or.inl rfl), hO⟩ [0] rfl rfl rfl (by omega) (by omega) dK_isLoadable_47
        · refine lv_iconst (v := nI 1) hx hb dK_isLoadable_42 (by decide) ?_
          refine lv_goto (tgt := 47) hx hb dK_isLoadable_43 (by decide) ?_
          exact mp_zret hx hb hr hlk rfl hP hD hS pl ⟨(Or.inr ⟨rfl, 0, by omega, rfl, (Or.inr ⟨hsc, by omega, (by show tl = 1632; omega)⟩)⟩), hO⟩ [0] rfl rfl rfl (by omega) (by omega) dK_isLoadable_47
      | 1, _ =>
        refine lv_if_eq (tgt := 16) hx hb dK_isLoadable_4 (by decide) (fun h50 => absurd h50 (by decide)) (fun h50 => ?_)
        refine lv_iload_n hx hb dK_isLoadable_7 rfl (lv_at hl 2 rfl) ?_
        refine lv_if_eq (tgt := 18) hx hb dK_isLoadable_8 (by decide) (fun h9 => absurd h9 hsc) (fun h9 => ?_)
        refine lv_iload_n hx hb dK_isLoadable_11 rfl (lv_at hl 1 rfl) ?_
        refine lv_iconst (v := nI 3) hx hb dK_isLoadable_12 (by decide) ?_
        refine mi_lt (tgt := 18) hx hb dK_isLoadable_13 (by decide) (by omega) (by omega) (fun h51 => ?_) (fun h51 => absurd h51 (by omega))
        refine lv_aload_n hx hb dK_isLoadable_18 rfl (lv_at hl 0 rfl) ?_
        refine va_get (D := g.1) (ci := 0) (C := "LatticeKeys") (T := T_K) (N := 11) hx hb hts (wg_ft i_K) hown hK hP 0 rfl rfl 1 (by decide) (hts _ (wg_t kw_375)) (fun _ h9 => h9) rfl dK_isLoadable_19 ?_
        refine lv_iload_n hx hb dK_isLoadable_22 rfl (lv_at hl 2 rfl) ?_
        refine lv_if_eq (tgt := 34) hx hb dK_isLoadable_23 (by decide) (fun h9 => absurd h9 hsc) (fun h9 => ?_)
        refine lv_aload_n hx hb dK_isLoadable_26 rfl (lv_at hl 0 rfl) ?_
        refine lv_iload_n hx hb dK_isLoadable_27 rfl (lv_at hl 1 rfl) ?_
        refine mp_i (cx := [(h0, .inr (0, [.ref kt, .int (nI tl), .ref ka, .int (nI al), .ref kp, .int (nI pn), .ref kks, .ref kds, .ref ksp, .ref kkm, .ref kda]))]) (wr := []) hP hD hS hA [0] [] rfl rfl rfl (by decide) (va_runV (As := [.int (nI 1)]) (rest := [.int (nI tl)]) F (t_K_secretLength_1 l g _ T  pl hO hU  h0 kt ka kp kks kds ksp kkm kda tl al pn k_kt k_ka k_kp k_kks k_kds k_ksp k_kkm k_kda (by omega)) (cwV 1 hts (wg_app (wg_c kw_570 (wg_c kw_572 (wg_c ks_3 (wg_c kw_1 wg_n)))) kw_573) rfl rfl rfl (by decide +kernel) ⟨by decide, by decide⟩) (pp_V (en_ok g) (q0 := 0) hK hP hD hS hA hE [0] rfl rfl rfl rfl) rfl rfl hl.1 rfl (lv_room (Nat.le_of_ble_eq_true rfl)) dK_isLoadable_28 ⟨by omega, by omega⟩) (fun r30 pl H locs hu30 hP hD hS => ?_)
        obtain ⟨hq30, hO⟩ := hu30
        have hP : va_P g.1 vcl ([(h0, .inr (0, [.ref kt, .int (nI tl), .ref ka, .int (nI al), .ref kp, .int (nI pn), .ref kks, .ref kds, .ref ksp, .ref kkm, .ref kda]))] ++ pl) _ := hP
        have hD : va_D _ ([(h0, .inr (0, [.ref kt, .int (nI tl), .ref ka, .int (nI al), .ref kp, .int (nI pn), .ref kks, .ref kds, .ref ksp, .ref kkm, .ref kda]))] ++ pl) := hD
        obtain rfl := hq30
        refine W.widen (k := 0) (n := 0) (by omega) (by omega) ?_
        refine lv_goto (tgt := 39) hx hb dK_isLoadable_31 (by decide) ?_
        refine mi_ne (tgt := 46) hx hb dK_isLoadable_39 (by decide) (by omega) (by omega) (fun h52 => ?_) (fun h52 => ?_)
        · refine lv_iconst (v := nI 0) hx hb dK_isLoadable_46 (by decide) ?_
          exact mp_zret hx hb hr hlk rfl hP hD hS pl ⟨(Or.inl rfl), hO⟩ [0] rfl rfl rfl (by omega) (by omega) dK_isLoadable_47
        · refine lv_iconst (v := nI 1) hx hb dK_isLoadable_42 (by decide) ?_
          refine lv_goto (tgt := 47) hx hb dK_isLoadable_43 (by decide) ?_
          exact mp_zret hx hb hr hlk rfl hP hD hS pl ⟨(Or.inr ⟨rfl, 1, by omega, rfl, (Or.inr ⟨hsc, by omega, (by show tl = 2400; omega)⟩)⟩), hO⟩ [0] rfl rfl rfl (by omega) (by omega) dK_isLoadable_47
      | 2, _ =>
        refine lv_if_eq (tgt := 16) hx hb dK_isLoadable_4 (by decide) (fun h53 => absurd h53 (by decide)) (fun h53 => ?_)
        refine lv_iload_n hx hb dK_isLoadable_7 rfl (lv_at hl 2 rfl) ?_
        refine lv_if_eq (tgt := 18) hx hb dK_isLoadable_8 (by decide) (fun h9 => absurd h9 hsc) (fun h9 => ?_)
        refine lv_iload_n hx hb dK_isLoadable_11 rfl (lv_at hl 1 rfl) ?_
        refine lv_iconst (v := nI 3) hx hb dK_isLoadable_12 (by decide) ?_
        refine mi_lt (tgt := 18) hx hb dK_isLoadable_13 (by decide) (by omega) (by omega) (fun h54 => ?_) (fun h54 => absurd h54 (by omega))
        refine lv_aload_n hx hb dK_isLoadable_18 rfl (lv_at hl 0 rfl) ?_
        refine va_get (D := g.1) (ci := 0) (C := "LatticeKeys") (T := T_K) (N := 11) hx hb hts (wg_ft i_K) hown hK hP 0 rfl rfl 1 (by decide) (hts _ (wg_t kw_375)) (fun _ h9 => h9) rfl dK_isLoadable_19 ?_
        refine lv_iload_n hx hb dK_isLoadable_22 rfl (lv_at hl 2 rfl) ?_
        refine lv_if_eq (tgt := 34) hx hb dK_isLoadable_23 (by decide) (fun h9 => absurd h9 hsc) (fun h9 => ?_)
        refine lv_aload_n hx hb dK_isLoadable_26 rfl (lv_at hl 0 rfl) ?_
        refine lv_iload_n hx hb dK_isLoadable_27 rfl (lv_at hl 1 rfl) ?_
        refine mp_i (cx := [(h0, .inr (0, [.ref kt, .int (nI tl), .ref ka, .int (nI al), .ref kp, .int (nI pn), .ref kks, .ref kds, .ref ksp, .ref kkm, .ref kda]))]) (wr := []) hP hD hS hA [0] [] rfl rfl rfl (by decide) (va_runV (As := [.int (nI 2)]) (rest := [.int (nI tl)]) F (t_K_secretLength_2 l g _ T  pl hO hU  h0 kt ka kp kks kds ksp kkm kda tl al pn k_kt k_ka k_kp k_kks k_kds k_ksp k_kkm k_kda (by omega)) (cwV 1 hts (wg_app (wg_c kw_570 (wg_c kw_572 (wg_c ks_3 (wg_c kw_1 wg_n)))) kw_573) rfl rfl rfl (by decide +kernel) ⟨by decide, by decide⟩) (pp_V (en_ok g) (q0 := 0) hK hP hD hS hA hE [0] rfl rfl rfl rfl) rfl rfl hl.1 rfl (lv_room (Nat.le_of_ble_eq_true rfl)) dK_isLoadable_28 ⟨by omega, by omega⟩) (fun r31 pl H locs hu31 hP hD hS => ?_)
        obtain ⟨hq31, hO⟩ := hu31
        have hP : va_P g.1 vcl ([(h0, .inr (0, [.ref kt, .int (nI tl), .ref ka, .int (nI al), .ref kp, .int (nI pn), .ref kks, .ref kds, .ref ksp, .ref kkm, .ref kda]))] ++ pl) _ := hP
        have hD : va_D _ ([(h0, .inr (0, [.ref kt, .int (nI tl), .ref ka, .int (nI al), .ref kp, .int (nI pn), .ref kks, .ref kds, .ref ksp, .ref kkm, .ref kda]))] ++ pl) := hD
        obtain rfl := hq31
        refine W.widen (k := 0) (n := 0) (by omega) (by omega) ?_
        refine lv_goto (tgt := 39) hx hb dK_isLoadable_31 (by decide) ?_
        refine mi_ne (tgt := 46) hx hb dK_isLoadable_39 (by decide) (by omega) (by omega) (fun h55 => ?_) (fun h55 => ?_)
        · refine lv_iconst (v := nI 0) hx hb dK_isLoadable_46 (by decide) ?_
          exact mp_zret hx hb hr hlk rfl hP hD hS pl ⟨(Or.inl rfl), hO⟩ [0] rfl rfl rfl (by omega) (by omega) dK_isLoadable_47
        · refine lv_iconst (v := nI 1) hx hb dK_isLoadable_42 (by decide) ?_
          refine lv_goto (tgt := 47) hx hb dK_isLoadable_43 (by decide) ?_
          exact mp_zret hx hb hr hlk rfl hP hD hS pl ⟨(Or.inr ⟨rfl, 2, by omega, rfl, (Or.inr ⟨hsc, by omega, (by show tl = 3168; omega)⟩)⟩), hO⟩ [0] rfl rfl rfl (by omega) (by omega) dK_isLoadable_47
      | 3, _ =>
        refine lv_if_eq (tgt := 16) hx hb dK_isLoadable_4 (by decide) (fun h56 => absurd h56 (by decide)) (fun h56 => ?_)
        refine lv_iload_n hx hb dK_isLoadable_7 rfl (lv_at hl 2 rfl) ?_
        refine lv_if_eq (tgt := 18) hx hb dK_isLoadable_8 (by decide) (fun h9 => absurd h9 hsc) (fun h9 => ?_)
        refine lv_iload_n hx hb dK_isLoadable_11 rfl (lv_at hl 1 rfl) ?_
        refine lv_iconst (v := nI 3) hx hb dK_isLoadable_12 (by decide) ?_
        refine mi_lt (tgt := 18) hx hb dK_isLoadable_13 (by decide) (by omega) (by omega) (fun h57 => absurd h57 (by omega)) (fun h57 => ?_)
        refine lv_iconst (v := nI 0) hx hb dK_isLoadable_16 (by decide) ?_
        exact mp_zret hx hb hr hlk rfl hP hD hS pl ⟨(Or.inl rfl), hO⟩ [0] rfl rfl rfl (by omega) (by omega) dK_isLoadable_17
      | 4, _ =>
        refine lv_if_eq (tgt := 16) hx hb dK_isLoadable_4 (by decide) (fun h58 => absurd h58 (by decide)) (fun h58 => ?_)
        refine lv_iload_n hx hb dK_isLoadable_7 rfl (lv_at hl 2 rfl) ?_
        refine lv_if_eq (tgt := 18) hx hb dK_isLoadable_8 (by decide) (fun h9 => absurd h9 hsc) (fun h9 => ?_)
        refine lv_iload_n hx hb dK_isLoadable_11 rfl (lv_at hl 1 rfl) ?_
        refine lv_iconst (v := nI 3) hx hb dK_isLoadable_12 (by decide) ?_
        refine mi_lt (tgt := 18) hx hb dK_isLoadable_13 (by decide) (by omega) (by omega) (fun h59 => absurd h59 (by omega)) (fun h59 => ?_)
        refine lv_iconst (v := nI 0) hx hb dK_isLoadable_16 (by decide) ?_
        exact mp_zret hx hb hr hlk rfl hP hD hS pl ⟨(Or.inl rfl), hO⟩ [0] rfl rfl rfl (by omega) (by omega) dK_isLoadable_17
      | 5, _ =>
        refine lv_if_eq (tgt := 16) hx hb dK_isLoadable_4 (by decide) (fun h60 => absurd h60 (by decide)) (fun h60 => ?_)
        refine lv_iload_n hx hb dK_isLoadable_7 rfl (lv_at hl 2 rfl) ?_
        refine lv_if_eq (tgt := 18) hx hb dK_isLoadable_8 (by decide) (fun h9 => absurd h9 hsc) (fun h9 => ?_)
        refine lv_iload_n hx hb dK_isLoadable_11 rfl (lv_at hl 1 rfl) ?_
        refine lv_iconst (v := nI 3) hx hb dK_isLoadable_12 (by decide) ?_
        refine mi_lt (tgt := 18) hx hb dK_isLoadable_13 (by decide) (by omega) (by omega) (fun h61 => absurd h61 (by omega)) (fun h61 => ?_)
        refine lv_iconst (v := nI 0) hx hb dK_isLoadable_16 (by decide) ?_
        exact mp_zret hx hb hr hlk rfl hP hD hS pl ⟨(Or.inl rfl), hO⟩ [0] rfl rfl rfl (by omega) (by omega) dK_isLoadable_17
      | _ + 6, h9 => exact absurd h9 (by omega)
set_option maxHeartbeats 4000000 in
set_option maxRecDepth 100000 in
theorem t_K_isSound_0 (l : Launch) (g : Gd) (sz : Nat) (T : Ty) (pl : va_W) (hO : okx g T [] pl) (hU : uni T) (st : Nat) (sc : Int32) (h0 kt ka kp kks kds ksp kkm kda tl al pn : Nat) (k_kt : T kt = some (1, 16384)) (k_ka : T ka = some (1, 8192)) (k_kp : T kp = some (6, 0)) (k_kks : T kks = some (50, 0)) (k_kds : T kds = some (51, 0)) (k_ksp : T ksp = some (10, 0)) (k_kkm : T kkm = some (13, 0)) (k_kda : T kda = some (15, 0)) (k_st : T st = some (40, 0)) (hb : tl ≤ 16384 ∧ al ≤ 8192 ∧ pn ≤ 8)  : Met l y_K_isSound w_K_isSound ({ frames := 5, cells := 0, slots := 0, locals := 146 } : Room) (va_Pc [.ref h0, .ref st, .int sc] (pr (en g) g.1 vcl sz ([(h0, .inr (0, [.ref kt, .int (nI tl), .ref ka, .int (nI al), .ref kp, .int (nI pn), .ref kks, .ref kds, .ref ksp, .ref kkm, .ref kda]))] ++ pl))) (va_Qi (fun (r : Int32) (u : va_W) => (r = nI 0 ∨ r = nI 1) ∧ okx g T [] u) (po g.1 vcl (va_A ([(h0, .inr (0, [.ref kt, .int (nI tl), .ref ka, .int (nI al), .ref kp, .int (nI pn), .ref kks, .ref kds, .ref ksp, .ref kkm, .ref kda]))] ++ pl) sz) (fun (u : va_W) => [(h0, .inr (0, [.ref kt, .int (nI tl), .ref ka, .int (nI al), .ref kp, .int (nI pn), .ref kks, .ref kds, .ref ksp, .ref kkm, .ref kda]))] ++ u)) (va_A ([(h0, .inr (0, [.ref kt, .int (nI tl), .ref ka, .int (nI al), .ref kp, .int (nI pn), .ref kks, .ref kds, .ref ksp, .ref kkm, .ref kda]))] ++ pl) sz)) 0 0 (va_A ([(h0, .inr (0, [.ref kt, .int (nI tl), .ref ka, .int (nI al), .ref kp, .int (nI pn), .ref kks, .ref kds, .ref ksp, .ref kkm, .ref kda]))] ++ pl) sz) := by
  refine mc_entry (cc := c_K_isSound) (maxL := 3) (ret := (some .boolean)) (by decide) rfl (Nat.le_of_ble_eq_true rfl) ?_
  intro p e s m args below meth c ls F hr hlk hnm hsz hP hD hE hA hl
  obtain ⟨hx, hb, hml, hown, hts⟩ := id F
  have hK := hE.1
  generalize va_A ([(h0, .inr (0, [.ref kt, .int (nI tl), .ref ka, .int (nI al), .ref kp, .int (nI pn), .ref kks, .ref kds, .ref ksp, .ref kkm, .ref kda]))] ++ pl) sz = A at hD hE hA ⊢
  have hS : va_S A s.heap s.heap [] := va_S.rf
  have hl : lv_has ls 3 [(0, .ref h0), (1, .ref st), (2, .int sc)] := hl
  refine lv_iload_n hx hb dK_isSound_0 rfl (lv_at hl 2 rfl) ?_
  refine lv_if_eq (tgt := 19) hx hb dK_isSound_1 (by decide) (fun h21 => ?_) (fun h21 => ?_)
  · refine lv_aload_n hx hb dK_isSound_19 rfl (lv_at hl 0 rfl) ?_
    refine va_get (D := g.1) (ci := 0) (C := "LatticeKeys") (T := T_K) (N := 11) hx hb hts (wg_ft i_K) hown hK hP 0 rfl rfl 9 (by decide) (hts _ (wg_t kw_383)) (fun _ h9 => h9) rfl dK_isSound_20 ?_
    refine lv_aload_n hx hb dK_isSound_23 rfl (lv_at hl 1 rfl) ?_
    refine lv_aload_n hx hb dK_isSound_24 rfl (lv_at hl 0 rfl) ?_
    refine va_get (D := g.1) (ci := 0) (C := "LatticeKeys") (T := T_K) (N := 11) hx hb hts (wg_ft i_K) hown hK hP 0 rfl rfl 0 (by decide) (hts _ (wg_t kw_374)) (fun _ h9 => h9) rfl dK_isSound_25 ?_
    refine mp_i (cx := []) (wr := [(h0, .inr (0, [.ref kt, .int (nI tl), .ref ka, .int (nI al), .ref kp, .int (nI pn), .ref kks, .ref kds, .ref ksp, .ref kkm, .ref kda]))]) hP hD hS hA [] [0] rfl rfl rfl (by decide) (va_runV (As := [.ref st, .ref kt]) (rest := []) F (t_KM_numbersFit_0 l g _ T [] pl hO hU clo_nil kkm st kt 16384 k_kkm k_st k_kt (by omega) (by omega)) (cwV 2 hts (wg_app (wg_c kw_785 (wg_c kw_786 (wg_c kw_787 (wg_c kw_3 wg_n)))) kw_788) rfl rfl rfl (by decide +kernel) ⟨by decide, by decide⟩) (pp_VT (en_ok g) (ci := 5) (kd := (13, 0)) hK hO k_kkm (nxg clo_nil k_kkm rfl) (fun _ h9 => ko1 h9) hP hD hS hA hE [] rfl rfl rfl) rfl rfl hl.1 rfl (lv_room (Nat.le_of_ble_eq_true rfl)) dK_isSound_28 ⟨by omega, by omega⟩) (fun r21 pl H locs hu21 hP hD hS => ?_)
    obtain ⟨hq21, hO⟩ := hu21
    have hP : va_P g.1 vcl ([(h0, .inr (0, [.ref kt, .int (nI tl), .ref ka, .int (nI al), .ref kp, .int (nI pn), .ref kks, .ref kds, .ref ksp, .ref kkm, .ref kda]))] ++ pl) _ := hP
    have hD : va_D _ ([(h0, .inr (0, [.ref kt, .int (nI tl), .ref ka, .int (nI al), .ref kp, .int (nI pn), .ref kks, .ref kds, .ref ksp, .ref kkm, .ref kda]))] ++ pl) := hD
    refine W.widen (k := 0) (n := 0) (by omega) (by omega) ?_
    exact mp_zret hx hb hr hlk (nar_b hq21) hP hD hS pl ⟨hq21, hO⟩ [0] rfl rfl rfl (by omega) (by omega) dK_isSound_31
  · refine lv_aload_n hx hb dK_isSound_4 rfl (lv_at hl 0 rfl) ?_
    refine va_get (D := g.1) (ci := 0) (C := "LatticeKeys") (T := T_K) (N := 11) hx hb hts (wg_ft i_K) hown hK hP 0 rfl rfl 9 (by decide) (hts _ (wg_t kw_383)) (fun _ h9 => h9) rfl dK_isSound_5 ?_
    refine lv_aload_n hx hb dK_isSound_8 rfl (lv_at hl 1 rfl) ?_
    refine lv_aload_n hx hb dK_isSound_9 rfl (lv_at hl 0 rfl) ?_
    refine va_get (D := g.1) (ci := 0) (C := "LatticeKeys") (T := T_K) (N := 11) hx hb hts (wg_ft i_K) hown hK hP 0 rfl rfl 0 (by decide) (hts _ (wg_t kw_374)) (fun _ h9 => h9) rfl dK_isSound_10 ?_
    refine mp_i (cx := []) (wr := [(h0, .inr (0, [.ref kt, .int (nI tl), .ref ka, .int (nI al), .ref kp, .int (nI pn), .ref kks, .ref kds, .ref ksp, .ref kkm, .ref kda]))]) hP hD hS hA [] [0] rfl rfl rfl (by decide) (va_runV (As := [.ref st, .ref kt]) (rest := []) F (t_KM_hashFits_0 l g _ T [] pl hO hU clo_nil clo_nil kkm st kt 16384 k_kkm k_st k_kt (by omega) (by omega)) (cwV 2 hts (wg_app (wg_c kw_781 (wg_c kw_782 (wg_c kw_783 (wg_c kw_3 wg_n)))) kw_784) rfl rfl rfl (by decide +kernel) ⟨by decide, by decide⟩) (pp_VT (en_ok g) (ci := 5) (kd := (13, 0)) hK hO k_kkm (nxg clo_nil k_kkm rfl) (fun _ h9 => ko1 h9) hP hD hS hA hE [] rfl rfl rfl) rfl rfl hl.1 rfl (lv_room (Nat.le_of_ble_eq_true rfl)) dK_isSound_13 ⟨by omega, by omega⟩) (fun r22 pl H locs hu22 hP hD hS => ?_)
    obtain ⟨hq22, hO⟩ := hu22
    have hP : va_P g.1 vcl ([(h0, .inr (0, [.ref kt, .int (nI tl), .ref ka, .int (nI al), .ref kp, .int (nI pn), .ref kks, .ref kds, .ref ksp, .ref kkm, .ref kda]))] ++ pl) _ := hP
    have hD : va_D _ ([(h0, .inr (0, [.ref kt, .int (nI tl), .ref ka, .int (nI al), .ref kp, .int (nI pn), .ref kks, .ref kds, .ref ksp, .ref kkm, .ref kda]))] ++ pl) := hD
    refine W.widen (k := 0) (n := 0) (by omega) (by omega) ?_
    refine lv_goto (tgt := 31) hx hb dK_isSound_16 (by decide) ?_
    exact mp_zret hx hb hr hlk (nar_b hq22) hP hD hS pl ⟨hq22, hO⟩ [0] rfl rfl rfl (by omega) (by omega) dK_isSound_31
set_option maxHeartbeats 4000000 in
set_option maxRecDepth 100000 in
theorem t_K_isSound_1 (l : Launch) (g : Gd) (sz : Nat) (T : Ty) (pl : va_W) (hO : okx g T [] pl) (hU : uni T) (st : Nat) (sc : Int32) (h0 kt ka kp kks kds ksp kkm kda tl al pn : Nat) (k_kt : T kt = some (1, 16384)) (k_ka : T ka = some (1, 8192)) (k_kp : T kp = some (6, 0)) (k_kks : T kks = some (50, 0)) (k_kds : T kds = some (51, 0)) (k_ksp : T ksp = some (10, 0)) (k_kkm : T kkm = some (13, 0)) (k_kda : T kda = some (15, 0)) (k_st : T st = some (41, 0)) (hb : tl ≤ 16384 ∧ al ≤ 8192 ∧ pn ≤ 8)  : Met l y_K_isSound w_K_isSound ({ frames := 5, cells := 0, slots := 0, locals := 146 } : Room) (va_Pc [.ref h0, .ref st, .int sc] (pr (en g) g.1 vcl sz ([(h0, .inr (0, [.ref kt, .int (nI tl), .ref ka, .int (nI al), .ref kp, .int (nI pn), .ref kks, .ref kds, .ref ksp, .ref kkm, .ref kda]))] ++ pl))) (va_Qi (fun (r : Int32) (u : va_W) => (r = nI 0 ∨ r = nI 1) ∧ okx g T [] u) (po g.1 vcl (va_A ([(h0, .inr (0, [.ref kt, .int (nI tl), .ref ka, .int (nI al), .ref kp, .int (nI pn), .ref kks, .ref kds, .ref ksp, .ref kkm, .ref kda]))] ++ pl) sz) (fun (u : va_W) => [(h0, .inr (0, [.ref kt, .int (nI tl), .ref ka, .int (nI al), .ref kp, .int (nI pn), .ref kks, .ref kds, .ref ksp, .ref kkm, .ref kda]))] ++ u)) (va_A ([(h0, .inr (0, [.ref kt, .int (nI tl), .ref ka, .int (nI al), .ref kp, .int (nI pn), .ref kks, .ref kds, .ref ksp, .ref kkm, .ref kda]))] ++ pl) sz)) 0 0 (va_A ([(h0, .inr (0, [.ref kt, .int (nI tl), .ref ka, .int (nI al), .ref kp, .int (nI pn), .ref kks, .ref kds, .ref ksp, .ref kkm, .ref kda]))] ++ pl) sz) := by
  refine mc_entry (cc := c_K_isSound) (maxL := 3) (ret := (some .boolean)) (by decide) rfl (Nat.le_of_ble_eq_true rfl) ?_
  intro p e s m args below meth c ls F hr hlk hnm hsz hP hD hE hA hl
  obtain ⟨hx, hb, hml, hown, hts⟩ := id F
  have hK := hE.1
  generalize va_A ([(h0, .inr (0, [.ref kt, .int (nI tl), .ref ka, .int (nI al), .ref kp, .int (nI pn), .ref kks, .ref kds, .ref ksp, .ref kkm, .ref kda]))] ++ pl) sz = A at hD hE hA ⊢
  have hS : va_S A s.heap s.heap [] := va_S.rf
  have hl : lv_has ls 3 [(0, .ref h0), (1, .ref st), (2, .int sc)] := hl
  refine lv_iload_n hx hb dK_isSound_0 rfl (lv_at hl 2 rfl) ?_
  refine lv_if_eq (tgt := 19) hx hb dK_isSound_1 (by decide) (fun h21 => ?_) (fun h21 => ?_)
  · refine lv_aload_n hx hb dK_isSound_19 rfl (lv_at hl 0 rfl) ?_
    refine va_get (D := g.1) (ci := 0) (C := "LatticeKeys") (T := T_K) (N := 11) hx hb hts (wg_ft i_K) hown hK hP 0 rfl rfl 9 (by decide) (hts _ (wg_t kw_383)) (fun _ h9 => h9) rfl dK_isSound_20 ?_
    refine lv_aload_n hx hb dK_isSound_23 rfl (lv_at hl 1 rfl) ?_
    refine lv_aload_n hx hb dK_isSound_24 rfl (lv_at hl 0 rfl) ?_
    refine va_get (D := g.1) (ci := 0) (C := "LatticeKeys") (T := T_K) (N := 11) hx hb hts (wg_ft i_K) hown hK hP 0 rfl rfl 0 (by decide) (hts _ (wg_t kw_374)) (fun _ h9 => h9) rfl dK_isSound_25 ?_
    refine mp_i (cx := []) (wr := [(h0, .inr (0, [.ref kt, .int (nI tl), .ref ka, .int (nI al), .ref kp, .int (nI pn), .ref kks, .ref kds, .ref ksp, .ref kkm, .ref kda]))]) hP hD hS hA [] [0] rfl rfl rfl (by decide) (va_runV (As := [.ref st, .ref kt]) (rest := []) F (t_KM_numbersFit_1 l g _ T [] pl hO hU clo_nil kkm st kt 16384 k_kkm k_st k_kt (by omega) (by omega)) (cwV 2 hts (wg_app (wg_c kw_785 (wg_c kw_786 (wg_c kw_787 (wg_c kw_3 wg_n)))) kw_788) rfl rfl rfl (by decide +kernel) ⟨by decide, by decide⟩) (pp_VT (en_ok g) (ci := 5) (kd := (13, 0)) hK hO k_kkm (nxg clo_nil k_kkm rfl) (fun _ h9 => ko1 h9) hP hD hS hA hE [] rfl rfl rfl) rfl rfl hl.1 rfl (lv_room (Nat.le_of_ble_eq_true rfl)) dK_isSound_28 ⟨by omega, by omega⟩) (fun r21 pl H locs hu21 hP hD hS => ?_)
    obtain ⟨hq21, hO⟩ := hu21
    have hP : va_P g.1 vcl ([(h0, .inr (0, [.ref kt, .int (nI tl), .ref ka, .int (nI al), .ref kp, .int (nI pn), .ref kks, .ref kds, .ref ksp, .ref kkm, .ref kda]))] ++ pl) _ := hP
    have hD : va_D _ ([(h0, .inr (0, [.ref kt, .int (nI tl), .ref ka, .int (nI al), .ref kp, .int (nI pn), .ref kks, .ref kds, .ref ksp, .ref kkm, .ref kda]))] ++ pl) := hD
    refine W.widen (k := 0) (n := 0) (by omega) (by omega) ?_
    exact mp_zret hx hb hr hlk (nar_b hq21) hP hD hS pl ⟨hq21, hO⟩ [0] rfl rfl rfl (by omega) (by omega) dK_isSound_31
  · refine lv_aload_n hx hb dK_isSound_4 rfl (lv_at hl 0 rfl) ?_
    refine va_get (D := g.1) (ci := 0) (C := "LatticeKeys") (T := T_K) (N := 11) hx hb hts (wg_ft i_K) hown hK hP 0 rfl rfl 9 (by decide) (hts _ (wg_t kw_383)) (fun _ h9 => h9) rfl dK_isSound_5 ?_
    refine lv_aload_n hx hb dK_isSound_8 rfl (lv_at hl 1 rfl) ?_
    refine lv_aload_n hx hb dK_isSound_9 rfl (lv_at hl 0 rfl) ?_
    refine va_get (D := g.1) (ci := 0) (C := "LatticeKeys") (T := T_K) (N := 11) hx hb hts (wg_ft i_K) hown hK hP 0 rfl rfl 0 (by decide) (hts _ (wg_t kw_374)) (fun _ h9 => h9) rfl dK_isSound_10 ?_
    refine mp_i (cx := []) (wr := [(h0, .inr (0, [.ref kt, .int (nI tl), .ref ka, .int (nI al), .ref kp, .int (nI pn), .ref kks, .ref kds, .ref ksp, .ref kkm, .ref kda]))]) hP hD hS hA [] [0] rfl rfl rfl (by decide) (va_runV (As := [.ref st, .ref kt]) (rest := []) F (t_KM_hashFits_1 l g _ T [] pl hO hU clo_nil clo_nil kkm st kt 16384 k_kkm k_st k_kt (by omega) (by omega)) (cwV 2 hts (wg_app (wg_c kw_781 (wg_c kw_782 (wg_c kw_783 (wg_c kw_3 wg_n)))) kw_784) rfl rfl rfl (by decide +kernel) ⟨by decide, by decide⟩) (pp_VT (en_ok g) (ci := 5) (kd := (13, 0)) hK hO k_kkm (nxg clo_nil k_kkm rfl) (fun _ h9 => ko1 h9) hP hD hS hA hE [] rfl rfl rfl) rfl rfl hl.1 rfl (lv_room (Nat.le_of_ble_eq_true rfl)) dK_isSound_13 ⟨by omega, by omega⟩) (fun r22 pl H locs hu22 hP hD hS => ?_)
    obtain ⟨hq22, hO⟩ := hu22
    have hP : va_P g.1 vcl ([(h0, .inr (0, [.ref kt, .int (nI tl), .ref ka, .int (nI al), .ref kp, .int (nI pn), .ref kks, .ref kds, .ref ksp, .ref kkm, .ref kda]))] ++ pl) _ := hP
    have hD : va_D _ ([(h0, .inr (0, [.ref kt, .int (nI tl), .ref ka, .int (nI al), .ref kp, .int (nI pn), .ref kks, .ref kds, .ref ksp, .ref kkm, .ref kda]))] ++ pl) := hD
    refine W.widen (k := 0) (n := 0) (by omega) (by omega) ?_
    refine lv_goto (tgt := 31) hx hb dK_isSound_16 (by decide) ?_
    exact mp_zret hx hb hr hlk (nar_b hq22) hP hD hS pl ⟨hq22, hO⟩ [0] rfl rfl rfl (by omega) (by omega) dK_isSound_31
set_option maxHeartbeats 4000000 in
set_option maxRecDepth 100000 in
theorem t_K_isSound_2 (l : Launch) (g : Gd) (sz : Nat) (T : Ty) (pl : va_W) (hO : okx g T [] pl) (hU : uni T) (st : Nat) (sc : Int32) (h0 kt ka kp kks kds ksp kkm kda tl al pn : Nat) (k_kt : T kt = some (1, 16384)) (k_ka : T ka = some (1, 8192)) (k_kp : T kp = some (6, 0)) (k_kks : T kks = some (50, 0)) (k_kds : T kds = some (51, 0)) (k_ksp : T ksp = some (10, 0)) (k_kkm : T kkm = some (13, 0)) (k_kda : T kda = some (15, 0)) (k_st : T st = some (42, 0)) (hb : tl ≤ 16384 ∧ al ≤ 8192 ∧ pn ≤ 8)  : Met l y_K_isSound w_K_isSound ({ frames := 5, cells := 0, slots := 0, locals := 146 } : Room) (va_Pc [.ref h0, .ref st, .int sc] (pr (en g) g.1 vcl sz ([(h0, .inr (0, [.ref kt, .int (nI tl), .ref ka, .int (nI al), .ref kp, .int (nI pn), .ref kks, .ref kds, .ref ksp, .ref kkm, .ref kda]))] ++ pl))) (va_Qi (fun (r : Int32) (u : va_W) => (r = nI 0 ∨ r = nI 1) ∧ okx g T [] u) (po g.1 vcl (va_A ([(h0, .inr (0, [.ref kt, .int (nI tl), .ref ka, .int (nI al), .ref kp, .int (nI pn), .ref kks, .ref kds, .ref ksp, .ref kkm, .ref kda]))] ++ pl) sz) (fun (u : va_W) => [(h0, .inr (0, [.ref kt, .int (nI tl), .ref ka, .int (nI al), .ref kp, .int (nI pn), .ref kks, .ref kds, .ref ksp, .ref kkm, .ref kda]))] ++ u)) (va_A ([(h0, .inr (0, [.ref kt, .int (nI tl), .ref ka, .int (nI al), .ref kp, .int (nI pn), .ref kks, .ref kds, .ref ksp, .ref kkm, .ref kda]))] ++ pl) sz)) 0 0 (va_A ([(h0, .inr (0, [.ref kt, .int (nI tl), .ref ka, .int (nI al), .ref kp, .int (nI pn), .ref kks, .ref kds, .ref ksp, .ref kkm, .ref kda]))] ++ pl) sz) := by
  refine mc_entry (cc := c_K_isSound) (maxL := 3) (ret := (some .boolean)) (by decide) rfl (Nat.le_of_ble_eq_true rfl) ?_
  intro p e s m args below meth c ls F hr hlk hnm hsz hP hD hE hA hl
  obtain ⟨hx, hb, hml, hown, hts⟩ := id F
  have hK := hE.1
  generalize va_A ([(h0, .inr (0, [.ref kt, .int (nI tl), .ref ka, .int (nI al), .ref kp, .int (nI pn), .ref kks, .ref kds, .ref ksp, .ref kkm, .ref kda]))] ++ pl) sz = A at hD hE hA ⊢
  have hS : va_S A s.heap s.heap [] := va_S.rf
  have hl : lv_has ls 3 [(0, .ref h0), (1, .ref st), (2, .int sc)] := hl
  refine lv_iload_n hx hb dK_isSound_0 rfl (lv_at hl 2 rfl) ?_
  refine lv_if_eq (tgt := 19) hx hb dK_isSound_1 (by decide) (fun h21 => ?_) (fun h21 => ?_)
  · refine lv_aload_n hx hb dK_isSound_19 rfl (lv_at hl 0 rfl) ?_
    refine va_get (D := g.1) (ci := 0) (C := "LatticeKeys") (T := T_K) (N := 11) hx hb hts (wg_ft i_K) hown hK hP 0 rfl rfl 9 (by decide) (hts _ (wg_t kw_383)) (fun _ h9 => h9) rfl dK_isSound_20 ?_
    refine lv_aload_n hx hb dK_isSound_23 rfl (lv_at hl 1 rfl) ?_
    refine lv_aload_n hx hb dK_isSound_24 rfl (lv_at hl 0 rfl) ?_
    refine va_get (D := g.1) (ci := 0) (C := "LatticeKeys") (T := T_K) (N := 11) hx hb hts (wg_ft i_K) hown hK hP 0 rfl rfl 0 (by decide) (hts _ (wg_t kw_374)) (fun _ h9 => h9) rfl dK_isSound_25 ?_
    refine mp_i (cx := []) (wr := [(h0, .inr (0, [.ref kt, .int (nI tl), .ref ka, .int (nI al), .ref kp, .int (nI pn), .ref kks, .ref kds, .ref ksp, .ref kkm, .ref kda]))]) hP hD hS hA [] [0] rfl rfl rfl (by decide) (va_runV (As := [.ref st, .ref kt]) (rest := []) F (t_KM_numbersFit_2 l g _ T [] pl hO hU clo_nil kkm st kt 16384 k_kkm k_st k_kt (by omega) (by omega)) (cwV 2 hts (wg_app (wg_c kw_785 (wg_c kw_786 (wg_c kw_787 (wg_c kw_3 wg_n)))) kw_788) rfl rfl rfl (by decide +kernel) ⟨by decide, by decide⟩) (pp_VT (en_ok g) (ci := 5) (kd := (13, 0)) hK hO k_kkm (nxg clo_nil k_kkm rfl) (fun _ h9 => ko1 h9) hP hD hS hA hE [] rfl rfl rfl) rfl rfl hl.1 rfl (lv_room (Nat.le_of_ble_eq_true rfl)) dK_isSound_28 ⟨by omega, by omega⟩) (fun r21 pl H locs hu21 hP hD hS => ?_)
    obtain ⟨hq21, hO⟩ := hu21
    have hP : va_P g.1 vcl ([(h0, .inr (0, [.ref kt, .int (nI tl), .ref ka, .int (nI al), .ref kp, .int (nI pn), .ref kks, .ref kds, .ref ksp, .ref kkm, .ref kda]))] ++ pl) _ := hP
    have hD : va_D _ ([(h0, .inr (0, [.ref kt, .int (nI tl), .ref ka, .int (nI al), .ref kp, .int (nI pn), .ref kks, .ref kds, .ref ksp, .ref kkm, .ref kda]))] ++ pl) := hD
    refine W.widen (k := 0) (n := 0) (by omega) (by omega) ?_
    exact mp_zret hx hb hr hlk (nar_b hq21) hP hD hS pl ⟨hq21, hO⟩ [0] rfl rfl rfl (by omega) (by omega) dK_isSound_31
  · refine lv_aload_n hx hb dK_isSound_4 rfl (lv_at hl 0 rfl) ?_
    refine va_get (D := g.1) (ci := 0) (C := "LatticeKeys") (T := T_K) (N := 11) hx hb hts (wg_ft i_K) hown hK hP 0 rfl rfl 9 (by decide) (hts _ (wg_t kw_383)) (fun _ h9 => h9) rfl dK_isSound_5 ?_
    refine lv_aload_n hx hb dK_isSound_8 rfl (lv_at hl 1 rfl) ?_
    refine lv_aload_n hx hb dK_isSound_9 rfl (lv_at hl 0 rfl) ?_
    refine va_get (D := g.1) (ci := 0) (C := "LatticeKeys") (T := T_K) (N := 11) hx hb hts (wg_ft i_K) hown hK hP 0 rfl rfl 0 (by decide) (hts _ (wg_t kw_374)) (fun _ h9 => h9) rfl dK_isSound_10 ?_
    refine mp_i (cx := []) (wr := [(h0, .inr (0, [.ref kt, .int (nI tl), .ref ka, .int (nI al), .ref kp, .int (nI pn), .ref kks, .ref kds, .ref ksp, .ref kkm, .ref kda]))]) hP hD hS hA [] [0] rfl rfl rfl (by decide) (va_runV (As := [.ref st, .ref kt]) (rest := []) F (t_KM_hashFits_2 l g _ T [] pl hO hU clo_nil clo_nil kkm st kt 16384 k_kkm k_st k_kt (by omega) (by omega)) (cwV 2 hts (wg_app (wg_c kw_781 (wg_c kw_782 (wg_c kw_783 (wg_c kw_3 wg_n)))) kw_784) rfl rfl rfl (by decide +kernel) ⟨by decide, by decide⟩) (pp_VT (en_ok g) (ci := 5) (kd := (13, 0)) hK hO k_kkm (nxg clo_nil k_kkm rfl) (fun _ h9 => ko1 h9) hP hD hS hA hE [] rfl rfl rfl) rfl rfl hl.1 rfl (lv_room (Nat.le_of_ble_eq_true rfl)) dK_isSound_13 ⟨by omega, by omega⟩) (fun r22 pl H locs hu22 hP hD hS => ?_)
    obtain ⟨hq22, hO⟩ := hu22
    have hP : va_P g.1 vcl ([(h0, .inr (0, [.ref kt, .int (nI tl), .ref ka, .int (nI al), .ref kp, .int (nI pn), .ref kks, .ref kds, .ref ksp, .ref kkm, .ref kda]))] ++ pl) _ := hP
    have hD : va_D _ ([(h0, .inr (0, [.ref kt, .int (nI tl), .ref ka, .int (nI al), .ref kp, .int (nI pn), .ref kks, .ref kds, .ref ksp, .ref kkm, .ref kda]))] ++ pl) := hD
    refine W.widen (k := 0) (n := 0) (by omega) (by omega) ?_
    refine lv_goto (tgt := 31) hx hb dK_isSound_16 (by decide) ?_
    exact mp_zret hx hb hr hlk (nar_b hq22) hP hD hS pl ⟨hq22, hO⟩ [0] rfl rfl rfl (by omega) (by omega) dK_isSound_31
set_option maxHeartbeats 4000000 in
set_option maxRecDepth 100000 in
theorem t_K_keep17 (l : Launch) (g : Gd) (sz : Nat) (T : Ty) (pl : va_W) (hO : okx g T [] pl) (hU : uni T) (kr sx : Nat) (h0 kt ka kp kks kds ksp kkm kda tl al pn : Nat) (k_kt : T kt = some (1, 16384)) (k_ka : T ka = some (1, 8192)) (k_kp : T kp = some (6, 0)) (k_kks : T kks = some (50, 0)) (k_kds : T kds = some (51, 0)) (k_ksp : T ksp = some (10, 0)) (k_kkm : T kkm = some (13, 0)) (k_kda : T kda = some (15, 0)) (k_kr : T kr = some (17, sx)) (hb : tl ≤ 16384 ∧ al ≤ 8192 ∧ pn ≤ 8) (hsx : sx < 6) (h8 : pn < 8)  : Met l y_K_keep w_K_keep ({ frames := 0, cells := 0, slots := 0, locals := 0 } : Room) (va_Pc [.ref h0, .ref kr] (pr (en g) g.1 vcl sz ([(h0, .inr (0, [.ref kt, .int (nI tl), .ref ka, .int (nI al), .ref kp, .int (nI pn), .ref kks, .ref kds, .ref ksp, .ref kkm, .ref kda]))] ++ pl))) (va_Qi (fun (r : Int32) (u : va_W) => (r = nI pn) ∧ okx g T [] u) (po g.1 vcl (va_A ([(h0, .inr (0, [.ref kt, .int (nI tl), .ref ka, .int (nI al), .ref kp, .int (nI pn), .ref kks, .ref kds, .ref ksp, .ref kkm, .ref kda]))] ++ pl) sz) (fun (u : va_W) => [(h0, .inr (0, [.ref kt, .int (nI tl), .ref ka, .int (nI al), .ref kp, .int (nI (pn + 1)), .ref kks, .ref kds, .ref ksp, .ref kkm, .ref kda]))] ++ u)) (va_A ([(h0, .inr (0, [.ref kt, .int (nI tl), .ref ka, .int (nI al), .ref kp, .int (nI pn), .ref kks, .ref kds, .ref ksp, .ref kkm, .ref kda]))] ++ pl) sz)) 0 0 (va_A ([(h0, .inr (0, [.ref kt, .int (nI tl), .ref ka, .int (nI al), .ref kp, .int (nI pn), .ref kks, .ref kds, .ref ksp, .ref kkm, .ref kda]))] ++ pl) sz) := by
  refine mc_entry (cc := c_K_keep) (maxL := 2) (ret := (some .int)) (by decide) rfl (Nat.le_of_ble_eq_true rfl) ?_
  intro p e s m args below meth c ls F hr hlk hnm hsz hP hD hE hA hl
  obtain ⟨hx, hb, hml, hown, hts⟩ := id F
  have hK := hE.1
  generalize va_A ([(h0, .inr (0, [.ref kt, .int (nI tl), .ref ka, .int (nI al), .ref kp, .int (nI pn), .ref kks, .ref kds, .ref ksp, .ref kkm, .ref kda]))] ++ pl) sz = A at hD hE hA ⊢
  have hS : va_S A s.heap s.heap [] := va_S.rf
  have hl : lv_has ls 2 [(0, .ref h0), (1, .ref kr)] := hl
  refine lv_aload_n hx hb dK_keep_0 rfl (lv_at hl 0 rfl) ?_
  refine va_get (D := g.1) (ci := 0) (C := "LatticeKeys") (T := T_K) (N := 11) hx hb hts (wg_ft i_K) hown hK hP 0 rfl rfl 4 (by decide) (hts _ (wg_t kw_378)) (fun _ h9 => h9) rfl dK_keep_1 ?_
  refine lv_aload_n hx hb dK_keep_4 rfl (lv_at hl 0 rfl) ?_
  refine va_get (D := g.1) (ci := 0) (C := "LatticeKeys") (T := T_K) (N := 11) hx hb hts (wg_ft i_K) hown hK hP 0 rfl rfl 5 (by decide) (hts _ (wg_t kw_379)) (fun _ h9 => h9) rfl dK_keep_5 ?_
  refine lv_aload_n hx hb dK_keep_8 rfl (lv_at hl 1 rfl) ?_
  refine ty_ast6 hx hb hK hO k_kp (nxg clo_nil k_kp rfl) (kd := 17) (by decide) hsx k_kr (nxg clo_nil k_kr rfl) hP hD hS (by omega) dK_keep_9 (fun pl H locs hO hP hD hS => ?_)
  refine lv_aload_n hx hb dK_keep_10 rfl (lv_at hl 0 rfl) ?_
  refine lv_dup hx hb dK_keep_11 rfl ?_
  refine va_get (D := g.1) (ci := 0) (C := "LatticeKeys") (T := T_K) (N := 11) hx hb hts (wg_ft i_K) hown hK hP 0 rfl rfl 5 (by decide) (hts _ (wg_t kw_379)) (fun _ h9 => h9) rfl dK_keep_12 ?_
  refine lv_iconst (v := nI 1) hx hb dK_keep_15 (by decide) ?_
  refine mi_iadd hx hb dK_keep_16 ?_
  refine va_put (D := g.1) (ci := 0) (v := .int (nI (pn + 1))) (ty := .int) (C := "LatticeKeys") (T := T_K) (N := 11) hx hb hts (wg_ft i_K) ty_K k_K n_K hown hK hP hD hS 0 rfl rfl 5 (by decide) (hts _ (wg_t kw_379)) (fun _ h9 => h9) rfl (by decide +kernel) rfl rfl (Nat.le_of_ble_eq_true rfl) dK_keep_17 (fun H locs hP hD hS => ?_)
  have hP : va_P g.1 vcl ([(h0, .inr (0, [.ref kt, .int (nI tl), .ref ka, .int (nI al), .ref kp, .int (nI (pn + 1)), .ref kks, .ref kds, .ref ksp, .ref kkm, .ref kda]))] ++ pl) _ := hP
  have hD : va_D _ ([(h0, .inr (0, [.ref kt, .int (nI tl), .ref ka, .int (nI al), .ref kp, .int (nI (pn + 1)), .ref kks, .ref kds, .ref ksp, .ref kkm, .ref kda]))] ++ pl) := hD
  refine lv_aload_n hx hb dK_keep_20 rfl (lv_at hl 0 rfl) ?_
  refine va_get (D := g.1) (ci := 0) (C := "LatticeKeys") (T := T_K) (N := 11) hx hb hts (wg_ft i_K) hown hK hP 0 rfl rfl 5 (by decide) (hts _ (wg_t kw_379)) (fun _ h9 => h9) rfl dK_keep_21 ?_
  refine lv_iconst (v := nI 1) hx hb dK_keep_24 (by decide) ?_
  refine mi_isub hx hb dK_keep_25 (by omega) ?_
  refine mi_as (show nI ((pn + 1) - 1) = nI pn from congrArg nI (by omega)) ?_
  exact mp_iret hx hb hr hlk hP hD hS pl ⟨rfl, hO⟩ [0] rfl rfl rfl (by omega) (by omega) dK_keep_26
set_option maxHeartbeats 4000000 in
set_option maxRecDepth 100000 in
theorem t_K_keep16 (l : Launch) (g : Gd) (sz : Nat) (T : Ty) (pl : va_W) (hO : okx g T [] pl) (hU : uni T) (kr sx : Nat) (h0 kt ka kp kks kds ksp kkm kda tl al pn : Nat) (k_kt : T kt = some (1, 16384)) (k_ka : T ka = some (1, 8192)) (k_kp : T kp = some (6, 0)) (k_kks : T kks = some (50, 0)) (k_kds : T kds = some (51, 0)) (k_ksp : T ksp = some (10, 0)) (k_kkm : T kkm = some (13, 0)) (k_kda : T kda = some (15, 0)) (k_kr : T kr = some (16, sx)) (hb : tl ≤ 16384 ∧ al ≤ 8192 ∧ pn ≤ 8) (hsx : sx < 6) (h8 : pn < 8)  : Met l y_K_keep w_K_keep ({ frames := 0, cells := 0, slots := 0, locals := 0 } : Room) (va_Pc [.ref h0, .ref kr] (pr (en g) g.1 vcl sz ([(h0, .inr (0, [.ref kt, .int (nI tl), .ref ka, .int (nI al), .ref kp, .int (nI pn), .ref kks, .ref kds, .ref ksp, .ref kkm, .ref kda]))] ++ pl))) (va_Qi (fun (r : Int32) (u : va_W) => (r = nI pn) ∧ okx g T [] u) (po g.1 vcl (va_A ([(h0, .inr (0, [.ref kt, .int (nI tl), .ref ka, .int (nI al), .ref kp, .int (nI pn), .ref kks, .ref kds, .ref ksp, .ref kkm, .ref kda]))] ++ pl) sz) (fun (u : va_W) => [(h0, .inr (0, [.ref kt, .int (nI tl), .ref ka, .int (nI al), .ref kp, .int (nI (pn + 1)), .ref kks, .ref kds, .ref ksp, .ref kkm, .ref kda]))] ++ u)) (va_A ([(h0, .inr (0, [.ref kt, .int (nI tl), .ref ka, .int (nI al), .ref kp, .int (nI pn), .ref kks, .ref kds, .ref ksp, .ref kkm, .ref kda]))] ++ pl) sz)) 0 0 (va_A ([(h0, .inr (0, [.ref kt, .int (nI tl), .ref ka, .int (nI al), .ref kp, .int (nI pn), .ref kks, .ref kds, .ref ksp, .ref kkm, .ref kda]))] ++ pl) sz) := by
  refine mc_entry (cc := c_K_keep) (maxL := 2) (ret := (some .int)) (by decide) rfl (Nat.le_of_ble_eq_true rfl) ?_
  intro p e s m args below meth c ls F hr hlk hnm hsz hP hD hE hA hl
  obtain ⟨hx, hb, hml, hown, hts⟩ := id F
  have hK := hE.1
  generalize va_A ([(h0, .inr (0, [.ref kt, .int (nI tl), .ref ka, .int (nI al), .ref kp, .int (nI pn), .ref kks, .ref kds, .ref ksp, .ref kkm, .ref kda]))] ++ pl) sz = A at hD hE hA ⊢
  have hS : va_S A s.heap s.heap [] := va_S.rf
  have hl : lv_has ls 2 [(0, .ref h0), (1, .ref kr)] := hl
  refine lv_aload_n hx hb dK_keep_0 rfl (lv_at hl 0 rfl) ?_
  refine va_get (D := g.1) (ci := 0) (C := "LatticeKeys") (T := T_K) (N := 11) hx hb hts (wg_ft i_K) hown hK hP 0 rfl rfl 4 (by decide) (hts _ (wg_t kw_378)) (fun _ h9 => h9) rfl dK_keep_1 ?_
  refine lv_aload_n hx hb dK_keep_4 rfl (lv_at hl 0 rfl) ?_
  refine va_get (D := g.1) (ci := 0) (C := "LatticeKeys") (T := T_K) (N := 11) hx hb hts (wg_ft i_K) hown hK hP 0 rfl rfl 5 (by decide) (hts _ (wg_t kw_379)) (fun _ h9 => h9) rfl dK_keep_5 ?_
  refine lv_aload_n hx hb dK_keep_8 rfl (lv_at hl 1 rfl) ?_
  refine ty_ast6 hx hb hK hO k_kp (nxg clo_nil k_kp rfl) (kd := 16) (by decide) hsx k_kr (nxg clo_nil k_kr rfl) hP hD hS (by omega) dK_keep_9 (fun pl H locs hO hP hD hS => ?_)
  refine lv_aload_n hx hb dK_keep_10 rfl (lv_at hl 0 rfl) ?_
  refine lv_dup hx hb dK_keep_11 rfl ?_
  refine va_get (D := g.1) (ci := 0) (C := "LatticeKeys") (T := T_K) (N := 11) hx hb hts (wg_ft i_K) hown hK hP 0 rfl rfl 5 (by decide) (hts _ (wg_t kw_379)) (fun _ h9 => h9) rfl dK_keep_12 ?_
  refine lv_iconst (v := nI 1) hx hb dK_keep_15 (by decide) ?_
  refine mi_iadd hx hb dK_keep_16 ?_
  refine va_put (D := g.1) (ci := 0) (v := .int (nI (pn + 1))) (ty := .int) (C := "LatticeKeys") (T := T_K) (N := 11) hx hb hts (wg_ft i_K) ty_K k_K n_K hown hK hP hD hS 0 rfl rfl 5 (by decide) (hts _ (wg_t kw_379)) (fun _ h9 => h9) rfl (by decide +kernel) rfl rfl (Nat.le_of_ble_eq_true rfl) dK_keep_17 (fun H locs hP hD hS => ?_)
  have hP : va_P g.1 vcl ([(h0, .inr (0, [.ref kt, .int (nI tl), .ref ka, .int (nI al), .ref kp, .int (nI (pn + 1)), .ref kks, .ref kds, .ref ksp, .ref kkm, .ref kda]))] ++ pl) _ := hP
  have hD : va_D _ ([(h0, .inr (0, [.ref kt, .int (nI tl), .ref ka, .int (nI al), .ref kp, .int (nI (pn + 1)), .ref kks, .ref kds, .ref ksp, .ref kkm, .ref kda]))] ++ pl) := hD
  refine lv_aload_n hx hb dK_keep_20 rfl (lv_at hl 0 rfl) ?_
  refine va_get (D := g.1) (ci := 0) (C := "LatticeKeys") (T := T_K) (N := 11) hx hb hts (wg_ft i_K) hown hK hP 0 rfl rfl 5 (by decide) (hts _ (wg_t kw_379)) (fun _ h9 => h9) rfl dK_keep_21 ?_
  refine lv_iconst (v := nI 1) hx hb dK_keep_24 (by decide) ?_
  refine mi_isub hx hb dK_keep_25 (by omega) ?_
  refine mi_as (show nI ((pn + 1) - 1) = nI pn from congrArg nI (by omega)) ?_
  exact mp_iret hx hb hr hlk hP hD hS pl ⟨rfl, hO⟩ [0] rfl rfl rfl (by omega) (by omega) dK_keep_26
set_option maxHeartbeats 4000000 in
set_option maxRecDepth 100000 in
theorem t_K_find (l : Launch) (g : Gd) (sz : Nat) (T : Ty) (pl : va_W) (hO : okx g T [] pl) (hU : uni T) (v : Int32) (h0 kt ka kp kks kds ksp kkm kda tl al pn : Nat) (k_kt : T kt = some (1, 16384)) (k_ka : T ka = some (1, 8192)) (k_kp : T kp = some (6, 0)) (k_kks : T kks = some (50, 0)) (k_kds : T kds = some (51, 0)) (k_ksp : T ksp = some (10, 0)) (k_kkm : T kkm = some (13, 0)) (k_kda : T kda = some (15, 0)) (hb : tl ≤ 16384 ∧ al ≤ 8192 ∧ pn ≤ 8)  : Met l y_K_find w_K_find ({ frames := 0, cells := 0, slots := 0, locals := 0 } : Room) (va_Pc [.ref h0, .int v] (pr (en g) g.1 vcl sz ([(h0, .inr (0, [.ref kt, .int (nI tl), .ref ka, .int (nI al), .ref kp, .int (nI pn), .ref kks, .ref kds, .ref ksp, .ref kkm, .ref kda]))] ++ pl))) (va_Qq (fun (r : Option Nat) (u : va_W) => (∀ q, r = some q → ∃ s, s < 6 ∧ (T q = some (17, s) ∨ T q = some (16, s))) ∧ okx g T [] u) (po g.1 vcl (va_A ([(h0, .inr (0, [.ref kt, .int (nI tl), .ref ka, .int (nI al), .ref kp, .int (nI pn), .ref kks, .ref kds, .ref ksp, .ref kkm, .ref kda]))] ++ pl) sz) (fun (u : va_W) => [(h0, .inr (0, [.ref kt, .int (nI tl), .ref ka, .int (nI al), .ref kp, .int (nI pn), .ref kks, .ref kds, .ref ksp, .ref kkm, .ref kda]))] ++ u)) (va_A ([(h0, .inr (0, [.ref kt, .int (nI tl), .ref ka, .int (nI al), .ref kp, .int (nI pn), .ref kks, .ref kds, .ref ksp, .ref kkm, .ref kda]))] ++ pl) sz)) 0 0 (va_A ([(h0, .inr (0, [.ref kt, .int (nI tl), .ref ka, .int (nI al), .ref kp, .int (nI pn), .ref kks, .ref kds, .ref ksp, .ref kkm, .ref kda]))] ++ pl) sz) := by
  refine mc_entry (cc := c_K_find) (maxL := 2) (ret := (Option.some (Jvm.ClassFile.FieldType.object "LatticeKeys$KeyPair"))) (by decide) rfl (Nat.le_of_ble_eq_true rfl) ?_
  intro p e s m args below meth c ls F hr hlk hnm hsz hP hD hE hA hl
  obtain ⟨hx, hb, hml, hown, hts⟩ := id F
  have hK := hE.1
  generalize va_A ([(h0, .inr (0, [.ref kt, .int (nI tl), .ref ka, .int (nI al), .ref kp, .int (nI pn), .ref kks, .ref kds, .ref ksp, .ref kkm, .ref kda]))] ++ pl) sz = A at hD hE hA ⊢
  have hS : va_S A s.heap s.heap [] := va_S.rf
  have hl : lv_has ls 2 [(0, .ref h0), (1, .int v)] := hl
  refine lv_iload_n hx hb dK_find_0 rfl (lv_at hl 1 rfl) ?_
  refine lv_if_lt (tgt := 12) hx hb dK_find_1 (by decide) (fun h21 => ?_) (fun h21 => ?_)
  · refine lv_null hx hb dK_find_12 ?_
    refine lv_goto (tgt := 22) hx hb dK_find_13 (by decide) ?_
    exact mp_qret (v := none) hx hb hr (Or.inl ⟨_, rfl⟩) hlk hP hD hS pl ⟨(fun q h9 => nomatch h9), hO⟩ [0] rfl rfl rfl (by omega) (by omega) dK_find_22
  · refine lv_iload_n hx hb dK_find_4 rfl (lv_at hl 1 rfl) ?_
    refine lv_aload_n hx hb dK_find_5 rfl (lv_at hl 0 rfl) ?_
    refine va_get (D := g.1) (ci := 0) (C := "LatticeKeys") (T := T_K) (N := 11) hx hb hts (wg_ft i_K) hown hK hP 0 rfl rfl 5 (by decide) (hts _ (wg_t kw_379)) (fun _ h9 => h9) rfl dK_find_6 ?_
    refine lv_icmp_lt (tgt := 16) hx hb dK_find_9 (by decide) (fun h22 => ?_) (fun h22 => ?_)
    · obtain ⟨z21, hz21, rfl⟩ := i32_ltc h21 (by omega) h22
      refine lv_aload_n hx hb dK_find_16 rfl (lv_at hl 0 rfl) ?_
      refine va_get (D := g.1) (ci := 0) (C := "LatticeKeys") (T := T_K) (N := 11) hx hb hts (wg_ft i_K) hown hK hP 0 rfl rfl 4 (by decide) (hts _ (wg_t kw_378)) (fun _ h9 => h9) rfl dK_find_17 ?_
      refine lv_iload_n hx hb dK_find_20 rfl (lv_at hl 1 rfl) ?_
      refine ty_aald6 hx hb hK hO k_kp (nxg clo_nil k_kp rfl) hP (by omega) dK_find_21 (fun o21 ko21 => ?_)
      exact mp_qret (v := o21) hx hb hr (Or.inl ⟨_, rfl⟩) hlk hP hD hS pl ⟨ko21, hO⟩ [0] rfl rfl rfl (by omega) (by omega) dK_find_22
    · refine lv_null hx hb dK_find_12 ?_
      refine lv_goto (tgt := 22) hx hb dK_find_13 (by decide) ?_
      exact mp_qret (v := none) hx hb hr (Or.inl ⟨_, rfl⟩) hlk hP hD hS pl ⟨(fun q h9 => nomatch h9), hO⟩ [0] rfl rfl rfl (by omega) (by omega) dK_find_22
set_option maxHeartbeats 4000000 in
set_option maxRecDepth 100000 in
theorem t_K_findKem (l : Launch) (g : Gd) (sz : Nat) (T : Ty) (pl : va_W) (hO : okx g T [] pl) (hU : uni T) (v : Int32) (h0 kt ka kp kks kds ksp kkm kda tl al pn : Nat) (k_kt : T kt = some (1, 16384)) (k_ka : T ka = some (1, 8192)) (k_kp : T kp = some (6, 0)) (k_kks : T kks = some (50, 0)) (k_kds : T kds = some (51, 0)) (k_ksp : T ksp = some (10, 0)) (k_kkm : T kkm = some (13, 0)) (k_kda : T kda = some (15, 0)) (hb : tl ≤ 16384 ∧ al ≤ 8192 ∧ pn ≤ 8)  : Met l y_K_findKem w_K_findKem ({ frames := 1, cells := 0, slots := 0, locals := 21 } : Room) (va_Pc [.ref h0, .int v] (pr (en g) g.1 vcl sz ([(h0, .inr (0, [.ref kt, .int (nI tl), .ref ka, .int (nI al), .ref kp, .int (nI pn), .ref kks, .ref kds, .ref ksp, .ref kkm, .ref kda]))] ++ pl))) (va_Qq (fun (r : Option Nat) (u : va_W) => (∀ q, r = some q → ∃ s, s < 3 ∧ (T q = some (17, s) ∨ T q = some (16, s))) ∧ okx g T [] u) (po g.1 vcl (va_A ([(h0, .inr (0, [.ref kt, .int (nI tl), .ref ka, .int (nI al), .ref kp, .int (nI pn), .ref kks, .ref kds, .ref ksp, .ref kkm, .ref kda]))] ++ pl) sz) (fun (u : va_W) => [(h0, .inr (0, [.ref kt, .int (nI tl), .ref ka, .int (nI al), .ref kp, .int (nI pn), .ref kks, .ref kds, .ref ksp, .ref kkm, .ref kda]))] ++ u)) (va_A ([(h0, .inr (0, [.ref kt, .int (nI tl), .ref ka, .int (nI al), .ref kp, .int (nI pn), .ref kks, .ref kds, .ref ksp, .ref kkm, .ref kda]))] ++ pl) sz)) 0 0 (va_A ([(h0, .inr (0, [.ref kt, .int (nI tl), .ref ka, .int (nI al), .ref kp, .int (nI pn), .ref kks, .ref kds, .ref ksp, .ref kkm, .ref kda]))] ++ pl) sz) := by
  refine mc_entry (cc := c_K_findKem) (maxL := 3) (ret := (Option.some (Jvm.ClassFile.FieldType.object "LatticeKeys$KeyPair"))) (by decide) rfl (Nat.le_of_ble_eq_true rfl) ?_
  intro p e s m args below meth c ls F hr hlk hnm hsz hP hD hE hA hl
  obtain ⟨hx, hb, hml, hown, hts⟩ := id F
  have hK := hE.1
  generalize va_A ([(h0, .inr (0, [.ref kt, .int (nI tl), .ref ka, .int (nI al), .ref kp, .int (nI pn), .ref kks, .ref kds, .ref ksp, .ref kkm, .ref kda]))] ++ pl) sz = A at hD hE hA ⊢
  have hS : va_S A s.heap s.heap [] := va_S.rf
  have hl : lv_has ls 3 [(0, .ref h0), (1, .int v)] := hl
  refine lv_aload_n hx hb dK_findKem_0 rfl (lv_at hl 0 rfl) ?_
  refine lv_iload_n hx hb dK_findKem_1 rfl (lv_at hl 1 rfl) ?_
  refine mp_q (cx := [(h0, .inr (0, [.ref kt, .int (nI tl), .ref ka, .int (nI al), .ref kp, .int (nI pn), .ref kks, .ref kds, .ref ksp, .ref kkm, .ref kda]))]) (wr := []) hP hD hS hA [0] [] rfl rfl rfl (by decide) (va_runV (As := [.int v]) (rest := []) F (t_K_find l g _ T  pl hO hU  v h0 kt ka kp kks kds ksp kkm kda tl al pn k_kt k_ka k_kp k_kks k_kds k_ksp k_kkm k_kda (by omega)) (cwV 1 hts (wg_app (wg_c kw_1060 (wg_c kw_1062 (wg_c ks_24 (wg_c kw_1 wg_n)))) kw_1063) rfl rfl rfl (by decide +kernel) ⟨by decide, by decide⟩) (pp_V (en_ok g) (q0 := 0) hK hP hD hS hA hE [0] rfl rfl rfl rfl) rfl rfl hl.1 rfl (lv_room (Nat.le_of_ble_eq_true rfl)) dK_findKem_2 ⟨by omega, by omega⟩) (fun r21 pl H locs hu21 hP hD hS => ?_)
  obtain ⟨hq21, hO⟩ := hu21
  have hP : va_P g.1 vcl ([(h0, .inr (0, [.ref kt, .int (nI tl), .ref ka, .int (nI al), .ref kp, .int (nI pn), .ref kks, .ref kds, .ref ksp, .ref kkm, .ref kda]))] ++ pl) _ := hP
  have hD : va_D _ ([(h0, .inr (0, [.ref kt, .int (nI tl), .ref ka, .int (nI al), .ref kp, .int (nI pn), .ref kks, .ref kds, .ref ksp, .ref kkm, .ref kda]))] ++ pl) := hD
  refine W.widen (k := 0) (n := 0) (by omega) (by omega) ?_
  match r21, hq21 with
  | none, _ =>
    refine lv_astore_nN (lv' := [(2, .null), (0, .ref h0), (1, .int v)]) hx hb dK_findKem_5 rfl hl (by decide) rfl (fun ls hl => ?_)
    refine lv_aload_nN hx hb dK_findKem_6 rfl (lv_at hl 0 rfl) ?_
    refine lv_ifnullN (tgt := 18) hx hb dK_findKem_7 (by decide) ?_
    refine lv_null hx hb dK_findKem_18 ?_
    refine lv_goto (tgt := 23) hx hb dK_findKem_19 (by decide) ?_
    exact mp_qret (v := none) hx hb hr (Or.inl ⟨_, rfl⟩) hlk hP hD hS pl ⟨(fun q h9 => nomatch h9), hO⟩ [0] rfl rfl rfl (by omega) (by omega) dK_findKem_23
  | some q21, hq9 =>
    obtain ⟨s9, hs9, hk9⟩ := hq9 q21 rfl
    rcases hk9 with hk9 | hk9
    · match s9, hs9, hk9 with
      | 0, _, hk9 =>
        have kr21 : T q21 = some (17, 0) := hk9
        refine lv_astore_n (lv' := [(2, .ref q21), (0, .ref h0), (1, .int v)]) hx hb dK_findKem_5 rfl hl (by decide) rfl (fun ls hl => ?_)
        refine lv_aload_n hx hb dK_findKem_6 rfl (lv_at hl 0 rfl) ?_
        refine lv_ifnull hx hb dK_findKem_7 ?_
        refine lv_aload_n hx hb dK_findKem_10 rfl (lv_at hl 0 rfl) ?_
        refine ty_get (ci := 13) (C := "LatticeKeys$KeyPair") (TT := T_KP) (N := 3) (kd := (17, 0)) hx hb hts (wg_ft i_KP) hown hK hO kr21 (nxg clo_nil kr21 rfl) hP (fun _ h9 => h9) rfl 0 (by decide) (hts _ (wg_t kw_746)) (fun _ h9 => h9) (cd := (1, 0, 0)) rfl dK_findKem_11 (fun v21 hv21 => ?_)
        obtain rfl := (show v21 = .int (nI 0) from hv21)
        refine lv_iconst (v := nI 3) hx hb dK_findKem_14 (by decide) ?_
        refine mi_lt (tgt := 22) hx hb dK_findKem_15 (by decide) (by omega) (by omega) (fun h21 => ?_) (fun h21 => absurd h21 (by omega))
        refine lv_aload_n hx hb dK_findKem_22 rfl (lv_at hl 0 rfl) ?_
        exact mp_qret (v := (some q21)) hx hb hr (Or.inl ⟨_, rfl⟩) hlk hP hD hS pl ⟨(fun q h9 => ⟨0, by decide, (by cases h9; exact Or.inl kr21)⟩), hO⟩ [0] rfl rfl rfl (by omega) (by omega) dK_findKem_23
      | 1, _, hk9 =>
        have kr22 : T q21 = some (17, 1) := hk9
        refine lv_astore_n (lv' := [(2, .ref q21), (0, .ref h0), (1, .int v)]) hx hb dK_findKem_5 rfl hl (by decide) rfl (fun ls hl => ?_)
        refine lv_aload_n hx hb dK_findKem_6 rfl (lv_at hl 0 rfl) ?_
        refine lv_ifnull hx hb dK_findKem_7 ?_
        refine lv_aload_n hx hb dK_findKem_10 rfl (lv_at hl 0 rfl) ?_
        refine ty_get (ci := 13) (C := "LatticeKeys$KeyPair") (TT := T_KP) (N := 3) (kd := (17, 1)) hx hb hts (wg_ft i_KP) hown hK hO kr22 (nxg clo_nil kr22 rfl) hP (fun _ h9 => h9) rfl 0 (by decide) (hts _ (wg_t kw_746)) (fun _ h9 => h9) (cd := (1, 0, 1)) rfl dK_findKem_11 (fun v22 hv22 => ?_)
        obtain rfl := (show v22 = .int (nI 1) from hv22)
        refine lv_iconst (v := nI 3) hx hb dK_findKem_14 (by decide) ?_
        refine mi_lt (tgt := 22) hx hb dK_findKem_15 (by decide) (by omega) (by omega) (fun h22 => ?_) (fun h22 => absurd h22 (by omega))
        refine lv_aload_n hx hb dK_findKem_22 rfl (lv_at hl 0 rfl) ?_
        exact mp_qret (v := (some q21)) hx hb hr (Or.inl ⟨_, rfl⟩) hlk hP hD hS pl ⟨(fun q h9 => ⟨1, by decide, (by cases h9; exact Or.inl kr22)⟩), hO⟩ [0] rfl rfl rfl (by omega) (by omega) dK_findKem_23
      | 2, _, hk9 =>
        have kr23 : T q21 = some (17, 2) := hk9
        refine lv_astore_n (lv' := [(2, .ref q21), (0, .ref h0), (1, .int v)]) hx hb dK_findKem_5 rfl hl (by decide) rfl (fun ls hl => ?_)
        refine lv_aload_n hx hb dK_findKem_6 rfl (lv_at hl 0 rfl) ?_
        refine lv_ifnull hx hb dK_findKem_7 ?_
        refine lv_aload_n hx hb dK_findKem_10 rfl (lv_at hl 0 rfl) ?_
        refine ty_get (ci := 13) (C := "LatticeKeys$KeyPair") (TT := T_KP) (N := 3) (kd := (17, 2)) hx hb hts (wg_ft i_KP) hown hK hO kr23 (nxg clo_nil kr23 rfl) hP (fun _ h9 => h9) rfl 0 (by decide) (hts _ (wg_t kw_746)) (fun _ h9 => h9) (cd := (1, 0, 2)) rfl dK_findKem_11 (fun v23 hv23 => ?_)
        obtain rfl := (show v23 = .int (nI 2) from hv23)
        refine lv_iconst (v := nI 3) hx hb dK_findKem_14 (by decide) ?_
        refine mi_lt (tgt := 22) hx hb dK_findKem_15 (by decide) (by omega) (by omega) (fun h23 => ?_) (fun h23 => absurd h23 (by omega))
        refine lv_aload_n hx hb dK_findKem_22 rfl (lv_at hl 0 rfl) ?_
        exact mp_qret (v := (some q21)) hx hb hr (Or.inl ⟨_, rfl⟩) hlk hP hD hS pl ⟨(fun q h9 => ⟨2, by decide, (by cases h9; exact Or.inl kr23)⟩), hO⟩ [0] rfl rfl rfl (by omega) (by omega) dK_findKem_23
      | 3, _, hk9 =>
        have kr24 : T q21 = some (17, 3) := hk9
        refine lv_astore_n (lv' := [(2, .ref q21), (0, .ref h0), (1, .int v)]) hx hb dK_findKem_5 rfl hl (by decide) rfl (fun ls hl => ?_)
        refine lv_aload_n hx hb dK_findKem_6 rfl (lv_at hl 0 rfl) ?_
        refine lv_ifnull hx hb dK_findKem_7 ?_
        refine lv_aload_n hx hb dK_findKem_10 rfl (lv_at hl 0 rfl) ?_
        refine ty_get (ci := 13) (C := "LatticeKeys$KeyPair") (TT := T_KP) (N := 3) (kd := (17, 3)) hx hb hts (wg_ft i_KP) hown hK hO kr24 (nxg clo_nil kr24 rfl) hP (fun _ h9 => h9) rfl 0 (by decide) (hts _ (wg_t kw_746)) (fun _ h9 => h9) (cd := (1, 0, 3)) rfl dK_findKem_11 (fun v24 hv24 => ?_)
        obtain rfl := (show v24 = .int (nI 3) from hv24)
        refine lv_iconst (v := nI 3) hx hb dK_findKem_14 (by decide) ?_
        refine mi_lt (tgt := 22) hx hb dK_findKem_15 (by decide) (by omega) (by omega) (fun h24 => absurd h24 (by omega)) (fun h24 => ?_)
        refine lv_null hx hb dK_findKem_18 ?_
        refine lv_goto (tgt := 23) hx hb dK_findKem_19 (by decide) ?_
        exact mp_qret (v := none) hx hb hr (Or.inl ⟨_, rfl⟩) hlk hP hD hS pl ⟨(fun q h9 => nomatch h9), hO⟩ [0] rfl rfl rfl (by omega) (by omega) dK_findKem_23
      | 4, _, hk9 =>
        have kr25 : T q21 = some (17, 4) := hk9
        refine lv_astore_n (lv' := [(2, .ref q21), (0, .ref h0), (1, .int v)]) hx hb dK_findKem_5 rfl hl (by decide) rfl (fun ls hl => ?_)
        refine lv_aload_n hx hb dK_findKem_6 rfl (lv_at hl 0 rfl) ?_
        refine lv_ifnull hx hb dK_findKem_7 ?_
        refine lv_aload_n hx hb dK_findKem_10 rfl (lv_at hl 0 rfl) ?_
        refine ty_get (ci := 13) (C := "LatticeKeys$KeyPair") (TT := T_KP) (N := 3) (kd := (17, 4)) hx hb hts (wg_ft i_KP) hown hK hO kr25 (nxg clo_nil kr25 rfl) hP (fun _ h9 => h9) rfl 0 (by decide) (hts _ (wg_t kw_746)) (fun _ h9 => h9) (cd := (1, 0, 4)) rfl dK_findKem_11 (fun v25 hv25 => ?_)
        obtain rfl := (show v25 = .int (nI 4) from hv25)
        refine lv_iconst (v := nI 3) hx hb dK_findKem_14 (by decide) ?_
        refine mi_lt (tgt := 22) hx hb dK_findKem_15 (by decide) (by omega) (by omega) (fun h25 => absurd h25 (by omega)) (fun h25 => ?_)
        refine lv_null hx hb dK_findKem_18 ?_
        refine lv_goto (tgt := 23) hx hb dK_findKem_19 (by decide) ?_
        exact mp_qret (v := none) hx hb hr (Or.inl ⟨_, rfl⟩) hlk hP hD hS pl ⟨(fun q h9 => nomatch h9), hO⟩ [0] rfl rfl rfl (by omega) (by omega) dK_findKem_23
      | 5, _, hk9 =>
        have kr26 : T q21 = some (17, 5) := hk9
        refine lv_astore_n (lv' := [(2, .ref q21), (0, .ref h0), (1, .int v)]) hx hb dK_findKem_5 rfl hl (by decide) rfl (fun ls hl => ?_)
        refine lv_aload_n hx hb dK_findKem_6 rfl (lv_at hl 0 rfl) ?_
        refine lv_ifnull hx hb dK_findKem_7 ?_
        refine lv_aload_n hx hb dK_findKem_10 rfl (lv_at hl 0 rfl) ?_
        refine ty_get (ci := 13) (C := "LatticeKeys$KeyPair") (TT := T_KP) (N := 3) (kd := (17, 5)) hx hb hts (wg_ft i_KP) hown hK hO kr26 (nxg clo_nil kr26 rfl) hP (fun _ h9 => h9) rfl 0 (by decide) (hts _ (wg_t kw_746)) (fun _ h9 => h9) (cd := (1, 0, 5)) rfl dK_findKem_11 (fun v26 hv26 => ?_)
        obtain rfl := (show v26 = .int (nI 5) from hv26)
        refine lv_iconst (v := nI 3) hx hb dK_findKem_14 (by decide) ?_
        refine mi_lt (tgt := 22) hx hb dK_findKem_15 (by decide) (by omega) (by omega) (fun h26 => absurd h26 (by omega)) (fun h26 => ?_)
        refine lv_null hx hb dK_findKem_18 ?_
        refine lv_goto (tgt := 23) hx hb dK_findKem_19 (by decide) ?_
        exact mp_qret (v := none) hx hb hr (Or.inl ⟨_, rfl⟩) hlk hP hD hS pl ⟨(fun q h9 => nomatch h9), hO⟩ [0] rfl rfl rfl (by omega) (by omega) dK_findKem_23
      | _ + 6, h9, _ => exact absurd h9 (by omega)
    · match s9, hs9, hk9 with
      | 0, _, hk9 =>
        have kr27 : T q21 = some (16, 0) := hk9
        refine lv_astore_n (lv' := [(2, .ref q21), (0, .ref h0), (1, .int v)]) hx hb dK_findKem_5 rfl hl (by decide) rfl (fun ls hl => ?_)
        refine lv_aload_n hx hb dK_findKem_6 rfl (lv_at hl 0 rfl) ?_
        refine lv_ifnull hx hb dK_findKem_7 ?_
        refine lv_aload_n hx hb dK_findKem_10 rfl (lv_at hl 0 rfl) ?_
        refine ty_get (ci := 13) (C := "LatticeKeys$KeyPair") (TT := T_KP) (N := 3) (kd := (16, 0)) hx hb hts (wg_ft i_KP) hown hK hO kr27 (nxg clo_nil kr27 rfl) hP (fun _ h9 => h9) rfl 0 (by decide) (hts _ (wg_t kw_746)) (fun _ h9 => h9) (cd := (1, 0, 0)) rfl dK_findKem_11 (fun v27 hv27 => ?_)
        obtain rfl := (show v27 = .int (nI 0) from hv27)
        refine lv_iconst (v := nI 3) hx hb dK_findKem_14 (by decide) ?_
        refine mi_lt (tgt := 22) hx hb dK_findKem_15 (by decide) (by omega) (by omega) (fun h27 => ?_) (fun h27 => absurd h27 (by omega))
        refine lv_aload_n hx hb dK_findKem_22 rfl (lv_at hl 0 rfl) ?_
        exact mp_qret (v := (some q21)) hx hb hr (Or.inl ⟨_, rfl⟩) hlk hP hD hS pl ⟨(fun q h9 => ⟨0, by decide, (by cases h9; exact Or.inr kr27)⟩), hO⟩ [0] rfl rfl rfl (by omega) (by omega) dK_findKem_23
      | 1, _, hk9 =>
        have kr28 : T q21 = some (16, 1) := hk9
        refine lv_astore_n (lv' := [(2, .ref q21), (0, .ref h0), (1, .int v)]) hx hb dK_findKem_5 rfl hl (by decide) rfl (fun ls hl => ?_)
        refine lv_aload_n hx hb dK_findKem_6 rfl (lv_at hl 0 rfl) ?_
        refine lv_ifnull hx hb dK_findKem_7 ?_
        refine lv_aload_n hx hb dK_findKem_10 rfl (lv_at hl 0 rfl) ?_
        refine ty_get (ci := 13) (C := "LatticeKeys$KeyPair") (TT := T_KP) (N := 3) (kd := (16, 1)) hx hb hts (wg_ft i_KP) hown hK hO kr28 (nxg clo_nil kr28 rfl) hP (fun _ h9 => h9) rfl 0 (by decide) (hts _ (wg_t kw_746)) (fun _ h9 => h9) (cd := (1, 0, 1)) rfl dK_findKem_11 (fun v28 hv28 => ?_)
        obtain rfl := (show v28 = .int (nI 1) from hv28)
        refine lv_iconst (v := nI 3) hx hb dK_findKem_14 (by decide) ?_
        refine mi_lt (tgt := 22) hx hb dK_findKem_15 (by decide) (by omega) (by omega) (fun h28 => ?_) (fun h28 => absurd h28 (by omega))
        refine lv_aload_n hx hb dK_findKem_22 rfl (lv_at hl 0 rfl) ?_
        exact mp_qret (v := (some q21)) hx hb hr (Or.inl ⟨_, rfl⟩) hlk hP hD hS pl ⟨(fun q h9 => ⟨1, by decide, (by cases h9; exact Or.inr kr28)⟩), hO⟩ [0] rfl rfl rfl (by omega) (by omega) dK_findKem_23
      | 2, _, hk9 =>
        have kr29 : T q21 = some (16, 2) := hk9
        refine lv_astore_n (lv' := [(2, .ref q21), (0, .ref h0), (1, .int v)]) hx hb dK_findKem_5 rfl hl (by decide) rfl (fun ls hl => ?_)
        refine lv_aload_n hx hb dK_findKem_6 rfl (lv_at hl 0 rfl) ?_
        refine lv_ifnull hx hb dK_findKem_7 ?_
        refine lv_aload_n hx hb dK_findKem_10 rfl (lv_at hl 0 rfl) ?_
        refine ty_get (ci := 13) (C := "LatticeKeys$KeyPair") (TT := T_KP) (N := 3) (kd := (16, 2)) hx hb hts (wg_ft i_KP) hown hK hO kr29 (nxg clo_nil kr29 rfl) hP (fun _ h9 => h9) rfl 0 (by decide) (hts _ (wg_t kw_746)) (fun _ h9 => h9) (cd := (1, 0, 2)) rfl dK_findKem_11 (fun v29 hv29 => ?_)
        obtain rfl := (show v29 = .int (nI 2) from hv29)
        refine lv_iconst (v := nI 3) hx hb dK_findKem_14 (by decide) ?_
        refine mi_lt (tgt := 22) hx hb dK_findKem_15 (by decide) (by omega) (by omega) (fun h29 => ?_) (fun h29 => absurd h29 (by omega))
        refine lv_aload_n hx hb dK_findKem_22 rfl (lv_at hl 0 rfl) ?_
        exact mp_qret (v := (some q21)) hx hb hr (Or.inl ⟨_, rfl⟩) hlk hP hD hS pl ⟨(fun q h9 => ⟨2, by decide, (by cases h9; exact Or.inr kr29)⟩), hO⟩ [0] rfl rfl rfl (by omega) (by omega) dK_findKem_23
      | 3, _, hk9 =>
        have kr30 : T q21 = some (16, 3) := hk9
        refine lv_astore_n (lv' := [(2, .ref q21), (0, .ref h0), (1, .int v)]) hx hb dK_findKem_5 rfl hl (by decide) rfl (fun ls hl => ?_)
        refine lv_aload_n hx hb dK_findKem_6 rfl (lv_at hl 0 rfl) ?_
        refine lv_ifnull hx hb dK_findKem_7 ?_
        refine lv_aload_n hx hb dK_findKem_10 rfl (lv_at hl 0 rfl) ?_
        refine ty_get (ci := 13) (C := "LatticeKeys$KeyPair") (TT := T_KP) (N := 3) (kd := (16, 3)) hx hb hts (wg_ft i_KP) hown hK hO kr30 (nxg clo_nil kr30 rfl) hP (fun _ h9 => h9) rfl 0 (by decide) (hts _ (wg_t kw_746)) (fun _ h9 => h9) (cd := (1, 0, 3)) rfl dK_findKem_11 (fun v30 hv30 => ?_)
        obtain rfl := (show v30 = .int (nI 3) from hv30)
        refine lv_iconst (v := nI 3) hx hb dK_findKem_14 (by decide) ?_
        refine mi_lt (tgt := 22) hx hb dK_findKem_15 (by decide) (by omega) (by omega) (fun h30 => absurd h30 (by omega)) (fun h30 => ?_)
        refine lv_null hx hb dK_findKem_18 ?_
        refine lv_goto (tgt := 23) hx hb dK_findKem_19 (by decide) ?_
        exact mp_qret (v := none) hx hb hr (Or.inl ⟨_, rfl⟩) hlk hP hD hS pl ⟨(fun q h9 => nomatch h9), hO⟩ [0] rfl rfl rfl (by omega) (by omega) dK_findKem_23
      | 4, _, hk9 =>
        have kr31 : T q21 = some (16, 4) := hk9
        refine lv_astore_n (lv' := [(2, .ref q21), (0, .ref h0), (1, .int v)]) hx hb dK_findKem_5 rfl hl (by decide) rfl (fun ls hl => ?_)
        refine lv_aload_n hx hb dK_findKem_6 rfl (lv_at hl 0 rfl) ?_
        refine lv_ifnull hx hb dK_findKem_7 ?_
        refine lv_aload_n hx hb dK_findKem_10 rfl (lv_at hl 0 rfl) ?_
        refine ty_get (ci := 13) (C := "LatticeKeys$KeyPair") (TT := T_KP) (N := 3) (kd := (16, 4)) hx hb hts (wg_ft i_KP) hown hK hO kr31 (nxg clo_nil kr31 rfl) hP (fun _ h9 => h9) rfl 0 (by decide) (hts _ (wg_t kw_746)) (fun _ h9 => h9) (cd := (1, 0, 4)) rfl dK_findKem_11 (fun v31 hv31 => ?_)
        obtain rfl := (show v31 = .int (nI 4) from hv31)
        refine lv_iconst (v := nI 3) hx hb dK_findKem_14 (by decide) ?_
        refine mi_lt (tgt := 22) hx hb dK_findKem_15 (by decide) (by omega) (by omega) (fun h31 => absurd h31 (by omega)) (fun h31 => ?_)
        refine lv_null hx hb dK_findKem_18 ?_
        refine lv_goto (tgt := 23) hx hb dK_findKem_19 (by decide) ?_
        exact mp_qret (v := none) hx hb hr (Or.inl ⟨_, rfl⟩) hlk hP hD hS pl ⟨(fun q h9 => nomatch h9), hO⟩ [0] rfl rfl rfl (by omega) (by omega) dK_findKem_23
      | 5, _, hk9 =>
        have kr32 : T q21 = some (16, 5) := hk9
        refine lv_astore_n (lv' := [(2, .ref q21), (0, .ref h0), (1, .int v)]) hx hb dK_findKem_5 rfl hl (by decide) rfl (fun ls hl => ?_)
        refine lv_aload_n hx hb dK_findKem_6 rfl (lv_at hl 0 rfl) ?_
        refine lv_ifnull hx hb dK_findKem_7 ?_
        refine lv_aload_n hx hb dK_findKem_10 rfl (lv_at hl 0 rfl) ?_
        refine ty_get (ci := 13) (C := "LatticeKeys$KeyPair") (TT := T_KP) (N := 3) (kd := (16, 5)) hx hb hts (wg_ft i_KP) hown hK hO kr32 (nxg clo_nil kr32 rfl) hP (fun _ h9 => h9) rfl 0 (by decide) (hts _ (wg_t kw_746)) (fun _ h9 => h9) (cd := (1, 0, 5)) rfl dK_findKem_11 (fun v32 hv32 => ?_)
        obtain rfl := (show v32 = .int (nI 5) from hv32)
        refine lv_iconst (v := nI 3) hx hb dK_findKem_14 (by decide) ?_
        refine mi_lt (tgt := 22) hx hb dK_findKem_15 (by decide) (by omega) (by omega) (fun h32 => absurd h32 (by omega)) (fun h32 => ?_)
        refine lv_null hx hb dK_findKem_18 ?_
        refine lv_goto (tgt := 23) hx hb dK_findKem_19 (by decide) ?_
        exact mp_qret (v := none) hx hb hr (Or.inl ⟨_, rfl⟩) hlk hP hD hS pl ⟨(fun q h9 => nomatch h9), hO⟩ [0] rfl rfl rfl (by omega) (by omega) dK_findKem_23
      | _ + 6, h9, _ => exact absurd h9 (by omega)
set_option maxHeartbeats 4000000 in
set_option maxRecDepth 100000 in
theorem t_K_findDsa (l : Launch) (g : Gd) (sz : Nat) (T : Ty) (pl : va_W) (hO : okx g T [] pl) (hU : uni T) (v : Int32) (h0 kt ka kp kks kds ksp kkm kda tl al pn : Nat) (k_kt : T kt = some (1, 16384)) (k_ka : T ka = some (1, 8192)) (k_kp : T kp = some (6, 0)) (k_kks : T kks = some (50, 0)) (k_kds : T kds = some (51, 0)) (k_ksp : T ksp = some (10, 0)) (k_kkm : T kkm = some (13, 0)) (k_kda : T kda = some (15, 0)) (hb : tl ≤ 16384 ∧ al ≤ 8192 ∧ pn ≤ 8)  : Met l y_K_findDsa w_K_findDsa ({ frames := 1, cells := 0, slots := 0, locals := 21 } : Room) (va_Pc [.ref h0, .int v] (pr (en g) g.1 vcl sz ([(h0, .inr (0, [.ref kt, .int (nI tl), .ref ka, .int (nI al), .ref kp, .int (nI pn), .ref kks, .ref kds, .ref ksp, .ref kkm, .ref kda]))] ++ pl))) (va_Qq (fun (r : Option Nat) (u : va_W) => (∀ q, r = some q → ∃ s, s < 3 ∧ (T q = some (17, s + 3) ∨ T q = some (16, s + 3))) ∧ okx g T [] u) (po g.1 vcl (va_A ([(h0, .inr (0, [.ref kt, .int (nI tl), .ref ka, .int (nI al), .ref kp, .int (nI pn), .ref kks, .ref kds, .ref ksp, .ref kkm, .ref kda]))] ++ pl) sz) (fun (u : va_W) => [(h0, .inr (0, [.ref kt, .int (nI tl), .ref ka, .int (nI al), .ref kp, .int (nI pn), .ref kks, .ref kds, .ref ksp, .ref kkm, .ref kda]))] ++ u)) (va_A ([(h0, .inr (0, [.ref kt, .int (nI tl), .ref ka, .int (nI al), .ref kp, .int (nI pn), .ref kks, .ref kds, .ref ksp, .ref kkm, .ref kda]))] ++ pl) sz)) 0 0 (va_A ([(h0, .inr (0, [.ref kt, .int (nI tl), .ref ka, .int (nI al), .ref kp, .int (nI pn), .ref kks, .ref kds, .ref ksp, .ref kkm, .ref kda]))] ++ pl) sz) := by
  refine mc_entry (cc := c_K_findDsa) (maxL := 3) (ret := (Option.some (Jvm.ClassFile.FieldType.object "LatticeKeys$KeyPair"))) (by decide) rfl (Nat.le_of_ble_eq_true rfl) ?_
  intro p e s m args below meth c ls F hr hlk hnm hsz hP hD hE hA hl
  obtain ⟨hx, hb, hml, hown, hts⟩ := id F
  have hK := hE.1
  generalize va_A ([(h0, .inr (0, [.ref kt, .int (nI tl), .ref ka, .int (nI al), .ref kp, .int (nI pn), .ref kks, .ref kds, .ref ksp, .ref kkm, .ref kda]))] ++ pl) sz = A at hD hE hA ⊢
  have hS : va_S A s.heap s.heap [] := va_S.rf
  have hl : lv_has ls 3 [(0, .ref h0), (1, .int v)] := hl
  refine lv_aload_n hx hb dK_findDsa_0 rfl (lv_at hl 0 rfl) ?_
  refine lv_iload_n hx hb dK_findDsa_1 rfl (lv_at hl 1 rfl) ?_
  refine mp_q (cx := [(h0, .inr (0, [.ref kt, .int (nI tl), .ref ka, .int (nI al), .ref kp, .int (nI pn), .ref kks, .ref kds, .ref ksp, .ref kkm, .ref kda]))]) (wr := []) hP hD hS hA [0] [] rfl rfl rfl (by decide) (va_runV (As := [.int v]) (rest := []) F (t_K_find l g _ T  pl hO hU  v h0 kt ka kp kks kds ksp kkm kda tl al pn k_kt k_ka k_kp k_kks k_kds k_ksp k_kkm k_kda (by omega)) (cwV 1 hts (wg_app (wg_c kw_1060 (wg_c kw_1062 (wg_c ks_24 (wg_c kw_1 wg_n)))) kw_1063) rfl rfl rfl (by decide +kernel) ⟨by decide, by decide⟩) (pp_V (en_ok g) (q0 := 0) hK hP hD hS hA hE [0] rfl rfl rfl rfl) rfl rfl hl.1 rfl (lv_room (Nat.le_of_ble_eq_true rfl)) dK_findDsa_2 ⟨by omega, by omega⟩) (fun r21 pl H locs hu21 hP hD hS => ?_)
  obtain ⟨hq21, hO⟩ := hu21
  have hP : va_P g.1 vcl ([(h0, .inr (0, [.ref kt, .int (nI tl), .ref ka, .int (nI al), .ref kp, .int (nI pn), .ref kks, .ref kds, .ref ksp, .ref kkm, .ref kda]))] ++ pl) _ := hP
  have hD : va_D _ ([(h0, .inr (0, [.ref kt, .int (nI tl), .ref ka, .int (nI al), .ref kp, .int (nI pn), .ref kks, .ref kds, .ref ksp, .ref kkm, .ref kda]))] ++ pl) := hD
  refine W.widen (k := 0) (n := 0) (by omega) (by omega) ?_
  match r21, hq21 with
  | none, _ =>
    refine lv_astore_nN (lv' := [(2, .null), (0, .ref h0), (1, .int v)]) hx hb dK_findDsa_5 rfl hl (by decide) rfl (fun ls hl => ?_)
    refine lv_aload_nN hx hb dK_findDsa_6 rfl (lv_at hl 0 rfl) ?_
    refine lv_ifnullN (tgt := 18) hx hb dK_findDsa_7 (by decide) ?_
    refine lv_null hx hb dK_findDsa_18 ?_
    refine lv_goto (tgt := 23) hx hb dK_findDsa_19 (by decide) ?_
    exact mp_qret (v := none) hx hb hr (Or.inl ⟨_, rfl⟩) hlk hP hD hS pl ⟨(fun q h9 => nomatch h9), hO⟩ [0] rfl rfl rfl (by omega) (by omega) dK_findDsa_23
  | some q21, hq9 =>
    obtain ⟨s9, hs9, hk9⟩ := hq9 q21 rfl
    rcases hk9 with hk9 | hk9
    · match s9, hs9, hk9 with
      | 0, _, hk9 =>
        have kr21 : T q21 = some (17, 0) := hk9
        refine lv_astore_n (lv' := [(2, .ref q21), (0, .ref h0), (1, .int v)]) hx hb dK_findDsa_5 rfl hl (by decide) rfl (fun ls hl => ?_)
        refine lv_aload_n hx hb dK_findDsa_6 rfl (lv_at hl 0 rfl) ?_
        refine lv_ifnull hx hb dK_findDsa_7 ?_
        refine lv_aload_n hx hb dK_findDsa_10 rfl (lv_at hl 0 rfl) ?_
        refine ty_get (ci := 13) (C := "LatticeKeys$KeyPair") (TT := T_KP) (N := 3) (kd := (17, 0)) hx hb hts (wg_ft i_KP) hown hK hO kr21 (nxg clo_nil kr21 rfl) hP (fun _ h9 => h9) rfl 0 (by decide) (hts _ (wg_t kw_746)) (fun _ h9 => h9) (cd := (1, 0, 0)) rfl dK_findDsa_11 (fun v21 hv21 => ?_)
        obtain rfl := (show v21 = .int (nI 0) from hv21)
        refine lv_iconst (v := nI 3) hx hb dK_findDsa_14 (by decide) ?_
        refine mi_ge (tgt := 22) hx hb dK_findDsa_15 (by decide) (by omega) (by omega) (fun h21 => absurd h21 (by omega)) (fun h21 => ?_)
        refine lv_null hx hb dK_findDsa_18 ?_
        refine lv_goto (tgt := 23) hx hb dK_findDsa_19 (by decide) ?_
        exact mp_qret (v := none) hx hb hr (Or.inl ⟨_, rfl⟩) hlk hP hD hS pl ⟨(fun q h9 => nomatch h9), hO⟩ [0] rfl rfl rfl (by omega) (by omega) dK_findDsa_23
      | 1, _, hk9 =>
        have kr22 : T q21 = some (17, 1) := hk9
        refine lv_astore_n (lv' := [(2, .ref q21), (0, .ref h0), (1, .int v)]) hx hb dK_findDsa_5 rfl hl (by decide) rfl (fun ls hl => ?_)
        refine lv_aload_n hx hb dK_findDsa_6 rfl (lv_at hl 0 rfl) ?_
        refine lv_ifnull hx hb dK_findDsa_7 ?_
        refine lv_aload_n hx hb dK_findDsa_10 rfl (lv_at hl 0 rfl) ?_
        refine ty_get (ci := 13) (C := "LatticeKeys$KeyPair") (TT := T_KP) (N := 3) (kd := (17, 1)) hx hb hts (wg_ft i_KP) hown hK hO kr22 (nxg clo_nil kr22 rfl) hP (fun _ h9 => h9) rfl 0 (by decide) (hts _ (wg_t kw_746)) (fun _ h9 => h9) (cd := (1, 0, 1)) rfl dK_findDsa_11 (fun v22 hv22 => ?_)
        obtain rfl := (show v22 = .int (nI 1) from hv22)
        refine lv_iconst (v := nI 3) hx hb dK_findDsa_14 (by decide) ?_
        refine mi_ge (tgt := 22) hx hb dK_findDsa_15 (by decide) (by omega) (by omega) (fun h22 => absurd h22 (by omega)) (fun h22 => ?_)
        refine lv_null hx hb dK_findDsa_18 ?_
        refine lv_goto (tgt := 23) hx hb dK_findDsa_19 (by decide) ?_
        exact mp_qret (v := none) hx hb hr (Or.inl ⟨_, rfl⟩) hlk hP hD hS pl ⟨(fun q h9 => nomatch h9), hO⟩ [0] rfl rfl rfl (by omega) (by omega) dK_findDsa_23
      | 2, _, hk9 =>
        have kr23 : T q21 = some (17, 2) := hk9
        refine lv_astore_n (lv' := [(2, .ref q21), (0, .ref h0), (1, .int v)]) hx hb dK_findDsa_5 rfl hl (by decide) rfl (fun ls hl => ?_)
        refine lv_aload_n hx hb dK_findDsa_6 rfl (lv_at hl 0 rfl) ?_
        refine lv_ifnull hx hb dK_findDsa_7 ?_
        refine lv_aload_n hx hb dK_findDsa_10 rfl (lv_at hl 0 rfl) ?_
        refine ty_get (ci := 13) (C := "LatticeKeys$KeyPair") (TT := T_KP) (N := 3) (kd := (17, 2)) hx hb hts (wg_ft i_KP) hown hK hO kr23 (nxg clo_nil kr23 rfl) hP (fun _ h9 => h9) rfl 0 (by decide) (hts _ (wg_t kw_746)) (fun _ h9 => h9) (cd := (1, 0, 2)) rfl dK_findDsa_11 (fun v23 hv23 => ?_)
        obtain rfl := (show v23 = .int (nI 2) from hv23)
        refine lv_iconst (v := nI 3) hx hb dK_findDsa_14 (by decide) ?_
        refine mi_ge (tgt := 22) hx hb dK_findDsa_15 (by decide) (by omega) (by omega) (fun h23 => absurd h23 (by omega)) (fun h23 => ?_)
        refine lv_null hx hb dK_findDsa_18 ?_
        refine lv_goto (tgt := 23) hx hb dK_findDsa_19 (by decide) ?_
        exact mp_qret (v := none) hx hb hr (Or.inl ⟨_, rfl⟩) hlk hP hD hS pl ⟨(fun q h9 => nomatch h9), hO⟩ [0] rfl rfl rfl (by omega) (by omega) dK_findDsa_23
      | 3, _, hk9 =>
        have kr24 : T q21 = some (17, 3) := hk9
        refine lv_astore_n (lv' := [(2, .ref q21), (0, .ref h0), (1, .int v)]) hx hb dK_findDsa_5 rfl hl (by decide) rfl (fun ls hl => ?_)
        refine lv_aload_n hx hb dK_findDsa_6 rfl (lv_at hl 0 rfl) ?_
        refine lv_ifnull hx hb dK_findDsa_7 ?_
        refine lv_aload_n hx hb dK_findDsa_10 rfl (lv_at hl 0 rfl) ?_
        refine ty_get (ci := 13) (C := "LatticeKeys$KeyPair") (TT := T_KP) (N := 3) (kd := (17, 3)) hx hb hts (wg_ft i_KP) hown hK hO kr24 (nxg clo_nil kr24 rfl) hP (fun _ h9 => h9) rfl 0 (by decide) (hts _ (wg_t kw_746)) (fun _ h9 => h9) (cd := (1, 0, 3)) rfl dK_findDsa_11 (fun v24 hv24 => ?_)
        obtain rfl := (show v24 = .int (nI 3) from hv24)
        refine lv_iconst (v := nI 3) hx hb dK_findDsa_14 (by decide) ?_
        refine mi_ge (tgt := 22) hx hb dK_findDsa_15 (by decide) (by omega) (by omega) (fun h24 => ?_) (fun h24 => absurd h24 (by omega))
        refine lv_aload_n hx hb dK_findDsa_22 rfl (lv_at hl 0 rfl) ?_
        exact mp_qret (v := (some q21)) hx hb hr (Or.inl ⟨_, rfl⟩) hlk hP hD hS pl ⟨(fun q h9 => ⟨0, by decide, (by cases h9; exact Or.inl kr24)⟩), hO⟩ [0] rfl rfl rfl (by omega) (by omega) dK_findDsa_23
      | 4, _, hk9 =>
        have kr25 : T q21 = some (17, 4) := hk9
        refine lv_astore_n (lv' := [(2, .ref q21), (0, .ref h0), (1, .int v)]) hx hb dK_findDsa_5 rfl hl (by decide) rfl (fun ls hl => ?_)
        refine lv_aload_n hx hb dK_findDsa_6 rfl (lv_at hl 0 rfl) ?_
        refine lv_ifnull hx hb dK_findDsa_7 ?_
        refine lv_aload_n hx hb dK_findDsa_10 rfl (lv_at hl 0 rfl) ?_
        refine ty_get (ci := 13) (C := "LatticeKeys$KeyPair") (TT := T_KP) (N := 3) (kd := (17, 4)) hx hb hts (wg_ft i_KP) hown hK hO kr25 (nxg clo_nil kr25 rfl) hP (fun _ h9 => h9) rfl 0 (by decide) (hts _ (wg_t kw_746)) (fun _ h9 => h9) (cd := (1, 0, 4)) rfl dK_findDsa_11 (fun v25 hv25 => ?_)
        obtain rfl := (show v25 = .int (nI 4) from hv25)
        refine lv_iconst (v := nI 3) hx hb dK_findDsa_14 (by decide) ?_
        refine mi_ge (tgt := 22) hx hb dK_findDsa_15 (by decide) (by omega) (by omega) (fun h25 => ?_) (fun h25 => absurd h25 (by omega))
        refine lv_aload_n hx hb dK_findDsa_22 rfl (lv_at hl 0 rfl) ?_
        exact mp_qret (v := (some q21)) hx hb hr (Or.inl ⟨_, rfl⟩) hlk hP hD hS pl ⟨(fun q h9 => ⟨1, by decide, (by cases h9; exact Or.inl kr25)⟩), hO⟩ [0] rfl rfl rfl (by omega) (by omega) dK_findDsa_23
      | 5, _, hk9 =>
        have kr26 : T q21 = some (17, 5) := hk9
        refine lv_astore_n (lv' := [(2, .ref q21), (0, .ref h0), (1, .int v)]) hx hb dK_findDsa_5 rfl hl (by decide) rfl (fun ls hl => ?_)
        refine lv_aload_n hx hb dK_findDsa_6 rfl (lv_at hl 0 rfl) ?_
        refine lv_ifnull hx hb dK_findDsa_7 ?_
        refine lv_aload_n hx hb dK_findDsa_10 rfl (lv_at hl 0 rfl) ?_
        refine ty_get (ci := 13) (C := "LatticeKeys$KeyPair") (TT := T_KP) (N := 3) (kd := (17, 5)) hx hb hts (wg_ft i_KP) hown hK hO kr26 (nxg clo_nil kr26 rfl) hP (fun _ h9 => h9) rfl 0 (by decide) (hts _ (wg_t kw_746)) (fun _ h9 => h9) (cd := (1, 0, 5)) rfl dK_findDsa_11 (fun v26 hv26 => ?_)
        obtain rfl := (show v26 = .int (nI 5) from hv26)
        refine lv_iconst (v := nI 3) hx hb dK_findDsa_14 (by decide) ?_
        refine mi_ge (tgt := 22) hx hb dK_findDsa_15 (by decide) (by omega) (by omega) (fun h26 => ?_) (fun h26 => absurd h26 (by omega))
        refine lv_aload_n hx hb dK_findDsa_22 rfl (lv_at hl 0 rfl) ?_
        exact mp_qret (v := (some q21)) hx hb hr (Or.inl ⟨_, rfl⟩) hlk hP hD hS pl ⟨(fun q h9 => ⟨2, by decide, (by cases h9; exact Or.inl kr26)⟩), hO⟩ [0] rfl rfl rfl (by omega) (by omega) dK_findDsa_23
      | _ + 6, h9, _ => exact absurd h9 (by omega)
    · match s9, hs9, hk9 with
      | 0, _, hk9 =>
        have kr27 : T q21 = some (16, 0) := hk9
        refine lv_astore_n (lv' := [(2, .ref q21), (0, .ref h0), (1, .int v)]) hx hb dK_findDsa_5 rfl hl (by decide) rfl (fun ls hl => ?_)
        refine lv_aload_n hx hb dK_findDsa_6 rfl (lv_at hl 0 rfl) ?_
        refine lv_ifnull hx hb dK_findDsa_7 ?_
        refine lv_aload_n hx hb dK_findDsa_10 rfl (lv_at hl 0 rfl) ?_
        refine ty_get (ci := 13) (C := "LatticeKeys$KeyPair") (TT := T_KP) (N := 3) (kd := (16, 0)) hx hb hts (wg_ft i_KP) hown hK hO kr27 (nxg clo_nil kr27 rfl) hP (fun _ h9 => h9) rfl 0 (by decide) (hts _ (wg_t kw_746)) (fun _ h9 => h9) (cd := (1, 0, 0)) rfl dK_findDsa_11 (fun v27 hv27 => ?_)
        obtain rfl := (show v27 = .int (nI 0) from hv27)
        refine lv_iconst (v := nI 3) hx hb dK_findDsa_14 (by decide) ?_
        refine mi_ge (tgt := 22) hx hb dK_findDsa_15 (by decide) (by omega) (by omega) (fun h27 => absurd h27 (by omega)) (fun h27 => ?_)
        refine lv_null hx hb dK_findDsa_18 ?_
        refine lv_goto (tgt := 23) hx hb dK_findDsa_19 (by decide) ?_
        exact mp_qret (v := none) hx hb hr (Or.inl ⟨_, rfl⟩) hlk hP hD hS pl ⟨(fun q h9 => nomatch h9), hO⟩ [0] rfl rfl rfl (by omega) (by omega) dK_findDsa_23
      | 1, _, hk9 =>
        have kr28 : T q21 = some (16, 1) := hk9
        refine lv_astore_n (lv' := [(2, .ref q21), (0, .ref h0), (1, .int v)]) hx hb dK_findDsa_5 rfl hl (by decide) rfl (fun ls hl => ?_)
        refine lv_aload_n hx hb dK_findDsa_6 rfl (lv_at hl 0 rfl) ?_
        refine lv_ifnull hx hb dK_findDsa_7 ?_
        refine lv_aload_n hx hb dK_findDsa_10 rfl (lv_at hl 0 rfl) ?_
        refine ty_get (ci := 13) (C := "LatticeKeys$KeyPair") (TT := T_KP) (N := 3) (kd := (16, 1)) hx hb hts (wg_ft i_KP) hown hK hO kr28 (nxg clo_nil kr28 rfl) hP (fun _ h9 => h9) rfl 0 (by decide) (hts _ (wg_t kw_746)) (fun _ h9 => h9) (cd := (1, 0, 1)) rfl dK_findDsa_11 (fun v28 hv28 => ?_)
        obtain rfl := (show v28 = .int (nI 1) from hv28)
        refine lv_iconst (v := nI 3) hx hb dK_findDsa_14 (by decide) ?_
        refine mi_ge (tgt := 22) hx hb dK_findDsa_15 (by decide) (by omega) (by omega) (fun h28 => absurd h28 (by omega)) (fun h28 => ?_)
        refine lv_null hx hb dK_findDsa_18 ?_
        refine lv_goto (tgt := 23) hx hb dK_findDsa_19 (by decide) ?_
        exact mp_qret (v := none) hx hb hr (Or.inl ⟨_, rfl⟩) hlk hP hD hS pl ⟨(fun q h9 => nomatch h9), hO⟩ [0] rfl rfl rfl (by omega) (by omega) dK_findDsa_23
      | 2, _, hk9 =>
        have kr29 : T q21 = some (16, 2) := hk9
        refine lv_astore_n (lv' := [(2, .ref q21), (0, .ref h0), (1, .int v)]) hx hb dK_findDsa_5 rfl hl (by decide) rfl (fun ls hl => ?_)
        refine lv_aload_n hx hb dK_findDsa_6 rfl (lv_at hl 0 rfl) ?_
        refine lv_ifnull hx hb dK_findDsa_7 ?_
        refine lv_aload_n hx hb dK_findDsa_10 rfl (lv_at hl 0 rfl) ?_
        refine ty_get (ci := 13) (C := "LatticeKeys$KeyPair") (TT := T_KP) (N := 3) (kd := (16, 2)) hx hb hts (wg_ft i_KP) hown hK hO kr29 (nxg clo_nil kr29 rfl) hP (fun _ h9 => h9) rfl 0 (by decide) (hts _ (wg_t kw_746)) (fun _ h9 => h9) (cd := (1, 0, 2)) rfl dK_findDsa_11 (fun v29 hv29 => ?_)
        obtain rfl := (show v29 = .int (nI 2) from hv29)
        refine lv_iconst (v := nI 3) hx hb dK_findDsa_14 (by decide) ?_
        refine mi_ge (tgt := 22) hx hb dK_findDsa_15 (by decide) (by omega) (by omega) (fun h29 => absurd h29 (by omega)) (fun h29 => ?_)
        refine lv_null hx hb dK_findDsa_18 ?_
        refine lv_goto (tgt := 23) hx hb dK_findDsa_19 (by decide) ?_
        exact mp_qret (v := none) hx hb hr (Or.inl ⟨_, rfl⟩) hlk hP hD hS pl ⟨(fun q h9 => nomatch h9), hO⟩ [0] rfl rfl rfl (by omega) (by omega) dK_findDsa_23
      | 3, _, hk9 =>
        have kr30 : T q21 = some (16, 3) := hk9
        refine lv_astore_n (lv' := [(2, .ref q21), (0, .ref h0), (1, .int v)]) hx hb dK_findDsa_5 rfl hl (by decide) rfl (fun ls hl => ?_)
        refine lv_aload_n hx hb dK_findDsa_6 rfl (lv_at hl 0 rfl) ?_
        refine lv_ifnull hx hb dK_findDsa_7 ?_
        refine lv_aload_n hx hb dK_findDsa_10 rfl (lv_at hl 0 rfl) ?_
        refine ty_get (ci := 13) (C := "LatticeKeys$KeyPair") (TT := T_KP) (N := 3) (kd := (16, 3)) hx hb hts (wg_ft i_KP) hown hK hO kr30 (nxg clo_nil kr30 rfl) hP (fun _ h9 => h9) rfl 0 (by decide) (hts _ (wg_t kw_746)) (fun _ h9 => h9) (cd := (1, 0, 3)) rfl dK_findDsa_11 (fun v30 hv30 => ?_)
        obtain rfl := (show v30 = .int (nI 3) from hv30)
        refine lv_iconst (v := nI 3) hx hb dK_findDsa_14 (by decide) ?_
        refine mi_ge (tgt := 22) hx hb dK_findDsa_15 (by decide) (by omega) (by omega) (fun h30 => ?_) (fun h30 => absurd h30 (by omega))
        refine lv_aload_n hx hb dK_findDsa_22 rfl (lv_at hl 0 rfl) ?_
        exact mp_qret (v := (some q21)) hx hb hr (Or.inl ⟨_, rfl⟩) hlk hP hD hS pl ⟨(fun q h9 => ⟨0, by decide, (by cases h9; exact Or.inr kr30)⟩), hO⟩ [0] rfl rfl rfl (by omega) (by omega) dK_findDsa_23
      | 4, _, hk9 =>
        have kr31 : T q21 = some (16, 4) := hk9
        refine lv_astore_n (lv' := [(2, .ref q21), (0, .ref h0), (1, .int v)]) hx hb dK_findDsa_5 rfl hl (by decide) rfl (fun ls hl => ?_)
        refine lv_aload_n hx hb dK_findDsa_6 rfl (lv_at hl 0 rfl) ?_
        refine lv_ifnull hx hb dK_findDsa_7 ?_
        refine lv_aload_n hx hb dK_findDsa_10 rfl (lv_at hl 0 rfl) ?_
        refine ty_get (ci := 13) (C := "LatticeKeys$KeyPair") (TT := T_KP) (N := 3) (kd := (16, 4)) hx hb hts (wg_ft i_KP) hown hK hO kr31 (nxg clo_nil kr31 rfl) hP (fun _ h9 => h9) rfl 0 (by decide) (hts _ (wg_t kw_746)) (fun _ h9 => h9) (cd := (1, 0, 4)) rfl dK_findDsa_11 (fun v31 hv31 => ?_)
        obtain rfl := (show v31 = .int (nI 4) from hv31)
        refine lv_iconst (v := nI 3) hx hb dK_findDsa_14 (by decide) ?_
        refine mi_ge (tgt := 22) hx hb dK_findDsa_15 (by decide) (by omega) (by omega) (fun h31 => ?_) (fun h31 => absurd h31 (by omega))
        refine lv_aload_n hx hb dK_findDsa_22 rfl (lv_at hl 0 rfl) ?_
        exact mp_qret (v := (some q21)) hx hb hr (Or.inl ⟨_, rfl⟩) hlk hP hD hS pl ⟨(fun q h9 => ⟨1, by decide, (by cases h9; exact Or.inr kr31)⟩), hO⟩ [0] rfl rfl rfl (by omega) (by omega) dK_findDsa_23
      | 5, _, hk9 =>
        have kr32 : T q21 = some (16, 5) := hk9
        refine lv_astore_n (lv' := [(2, .ref q21), (0, .ref h0), (1, .int v)]) hx hb dK_findDsa_5 rfl hl (by decide) rfl (fun ls hl => ?_)
        refine lv_aload_n hx hb dK_findDsa_6 rfl (lv_at hl 0 rfl) ?_
        refine lv_ifnull hx hb dK_findDsa_7 ?_
        refine lv_aload_n hx hb dK_findDsa_10 rfl (lv_at hl 0 rfl) ?_
        refine ty_get (ci := 13) (C := "LatticeKeys$KeyPair") (TT := T_KP) (N := 3) (kd := (16, 5)) hx hb hts (wg_ft i_KP) hown hK hO kr32 (nxg clo_nil kr32 rfl) hP (fun _ h9 => h9) rfl 0 (by decide) (hts _ (wg_t kw_746)) (fun _ h9 => h9) (cd := (1, 0, 5)) rfl dK_findDsa_11 (fun v32 hv32 => ?_)
        obtain rfl := (show v32 = .int (nI 5) from hv32)
        refine lv_iconst (v := nI 3) hx hb dK_findDsa_14 (by decide) ?_
        refine mi_ge (tgt := 22) hx hb dK_findDsa_15 (by decide) (by omega) (by omega) (fun h32 => ?_) (fun h32 => absurd h32 (by omega))
        refine lv_aload_n hx hb dK_findDsa_22 rfl (lv_at hl 0 rfl) ?_
        exact mp_qret (v := (some q21)) hx hb hr (Or.inl ⟨_, rfl⟩) hlk hP hD hS pl ⟨(fun q h9 => ⟨2, by decide, (by cases h9; exact Or.inr kr32)⟩), hO⟩ [0] rfl rfl rfl (by omega) (by omega) dK_findDsa_23
      | _ + 6, h9, _ => exact absurd h9 (by omega)
set_option maxHeartbeats 4000000 in
set_option maxRecDepth 100000 in
theorem t_K_partOf (l : Launch) (g : Gd) (sz : Nat) (T : Ty) (pl : va_W) (hO : okx g T [] pl) (hU : uni T) (v : Int32) (sc : Int32) (h0 kt ka kp kks kds ksp kkm kda tl al pn : Nat) (k_kt : T kt = some (1, 16384)) (k_ka : T ka = some (1, 8192)) (k_kp : T kp = some (6, 0)) (k_kks : T kks = some (50, 0)) (k_kds : T kds = some (51, 0)) (k_ksp : T ksp = some (10, 0)) (k_kkm : T kkm = some (13, 0)) (k_kda : T kda = some (15, 0)) (hb : tl ≤ 16384 ∧ al ≤ 8192 ∧ pn ≤ 8)  : Met l y_K_partOf w_K_partOf ({ frames := 1, cells := 0, slots := 0, locals := 21 } : Room) (va_Pc [.ref h0, .int v, .int sc] (pr (en g) g.1 vcl sz ([(h0, .inr (0, [.ref kt, .int (nI tl), .ref ka, .int (nI al), .ref kp, .int (nI pn), .ref kks, .ref kds, .ref ksp, .ref kkm, .ref kda]))] ++ pl))) (va_Qq (fun (r : Option Nat) (u : va_W) => (∀ q, r = some q → ∃ n, n ≤ 4896 ∧ T q = some (1, n)) ∧ okx g T [] u) (po g.1 vcl (va_A ([(h0, .inr (0, [.ref kt, .int (nI tl), .ref ka, .int (nI al), .ref kp, .int (nI pn), .ref kks, .ref kds, .ref ksp, .ref kkm, .ref kda]))] ++ pl) sz) (fun (u : va_W) => [(h0, .inr (0, [.ref kt, .int (nI tl), .ref ka, .int (nI al), .ref kp, .int (nI pn), .ref kks, .ref kds, .ref ksp, .ref kkm, .ref kda]))] ++ u)) (va_A ([(h0, .inr (0, [.ref kt, .int (nI tl), .ref ka, .int (nI al), .ref kp, .int (nI pn), .ref kks, .ref kds, .ref ksp, .ref kkm, .ref kda]))] ++ pl) sz)) 0 0 (va_A ([(h0, .inr (0, [.ref kt, .int (nI tl), .ref ka, .int (nI al), .ref kp, .int (nI pn), .ref kks, .ref kds, .ref ksp, .ref kkm, .ref kda]))] ++ pl) sz) := by
  refine mc_entry (cc := c_K_partOf) (maxL := 4) (ret := (Option.some (Jvm.ClassFile.FieldType.array Jvm.ClassFile.FieldType.byte))) (by decide) rfl (Nat.le_of_ble_eq_true rfl) ?_
  intro p e s m args below meth c ls F hr hlk hnm hsz hP hD hE hA hl
  obtain ⟨hx, hb, hml, hown, hts⟩ := id F
  have hK := hE.1
  generalize va_A ([(h0, .inr (0, [.ref kt, .int (nI tl), .ref ka, .int (nI al), .ref kp, .int (nI pn), .ref kks, .ref kds, .ref ksp, .ref kkm, .ref kda]))] ++ pl) sz = A at hD hE hA ⊢
  have hS : va_S A s.heap s.heap [] := va_S.rf
  have hl : lv_has ls 4 [(0, .ref h0), (1, .int v), (2, .int sc)] := hl
  refine lv_aload_n hx hb dK_partOf_0 rfl (lv_at hl 0 rfl) ?_
  refine lv_iload_n hx hb dK_partOf_1 rfl (lv_at hl 1 rfl) ?_
  refine mp_q (cx := [(h0, .inr (0, [.ref kt, .int (nI tl), .ref ka, .int (nI al), .ref kp, .int (nI pn), .ref kks, .ref kds, .ref ksp, .ref kkm, .ref kda]))]) (wr := []) hP hD hS hA [0] [] rfl rfl rfl (by decide) (va_runV (As := [.int v]) (rest := []) F (t_K_find l g _ T  pl hO hU  v h0 kt ka kp kks kds ksp kkm kda tl al pn k_kt k_ka k_kp k_kks k_kds k_ksp k_kkm k_kda (by omega)) (cwV 1 hts (wg_app (wg_c kw_1060 (wg_c kw_1062 (wg_c ks_24 (wg_c kw_1 wg_n)))) kw_1063) rfl rfl rfl (by decide +kernel) ⟨by decide, by decide⟩) (pp_V (en_ok g) (q0 := 0) hK hP hD hS hA hE [0] rfl rfl rfl rfl) rfl rfl hl.1 rfl (lv_room (Nat.le_of_ble_eq_true rfl)) dK_partOf_2 ⟨by omega, by omega⟩) (fun r21 pl H locs hu21 hP hD hS => ?_)
  obtain ⟨hq21, hO⟩ := hu21
  have hP : va_P g.1 vcl ([(h0, .inr (0, [.ref kt, .int (nI tl), .ref ka, .int (nI al), .ref kp, .int (nI pn), .ref kks, .ref kds, .ref ksp, .ref kkm, .ref kda]))] ++ pl) _ := hP
  have hD : va_D _ ([(h0, .inr (0, [.ref kt, .int (nI tl), .ref ka, .int (nI al), .ref kp, .int (nI pn), .ref kks, .ref kds, .ref ksp, .ref kkm, .ref kda]))] ++ pl) := hD
  refine W.widen (k := 0) (n := 0) (by omega) (by omega) ?_
  match r21, hq21 with
  | none, _ =>
    refine lv_astore_nN (lv' := [(3, .null), (0, .ref h0), (1, .int v), (2, .int sc)]) hx hb dK_partOf_5 rfl hl (by decide) rfl (fun ls hl => ?_)
    refine lv_aload_nN hx hb dK_partOf_6 rfl (lv_at hl 0 rfl) ?_
    refine lv_ifnonnullN hx hb dK_partOf_7 ?_
    refine lv_null hx hb dK_partOf_10 ?_
    exact mp_qret (v := none) hx hb hr (Or.inr ⟨_, rfl⟩) hlk hP hD hS pl ⟨(fun q h9 => nomatch h9), hO⟩ [0] rfl rfl rfl (by omega) (by omega) dK_partOf_11
  | some q21, hq9 =>
    obtain ⟨s9, hs9, hk9⟩ := hq9 q21 rfl
    rcases hk9 with hk9 | hk9
    · match s9, hs9, hk9 with
      | 0, _, hk9 =>
        have kr21 : T q21 = some (17, 0) := hk9
        refine lv_astore_n (lv' := [(3, .ref q21), (0, .ref h0), (1, .int v), (2, .int sc)]) hx hb dK_partOf_5 rfl hl (by decide) rfl (fun ls hl => ?_)
        refine lv_aload_n hx hb dK_partOf_6 rfl (lv_at hl 0 rfl) ?_
        refine lv_ifnonnull (tgt := 12) hx hb dK_partOf_7 (by decide) ?_
        refine lv_iload_n hx hb dK_partOf_12 rfl (lv_at hl 3 rfl) ?_
        refine lv_if_eq (tgt := 23) hx hb dK_partOf_13 (by decide) (fun h21 => ?_) (fun h21 => ?_)
        · refine lv_aload_n hx hb dK_partOf_23 rfl (lv_at hl 0 rfl) ?_
          refine ty_get (ci := 13) (C := "LatticeKeys$KeyPair") (TT := T_KP) (N := 3) (kd := (17, 0)) hx hb hts (wg_ft i_KP) hown hK hO kr21 (nxg clo_nil kr21 rfl) hP (fun _ h9 => h9) rfl 1 (by decide) (hts _ (wg_t kw_749)) (fun _ h9 => h9) (cd := (3, 1, 800)) rfl dK_partOf_24 (fun v21 hv21 => ?_)
          obtain ⟨r22, rfl, kr22⟩ := (show ∃ r : Nat, v21 = .ref r ∧ T r = some (1, 800) from hv21)
          exact mp_qret (v := (some r22)) hx hb hr (Or.inr ⟨_, rfl⟩) hlk hP hD hS pl ⟨(fun q h9 => ⟨800, by decide, by cases h9; exact kr22⟩), hO⟩ [0] rfl rfl rfl (by omega) (by omega) dK_partOf_27
        · refine lv_aload_n hx hb dK_partOf_16 rfl (lv_at hl 0 rfl) ?_
          refine ty_get (ci := 13) (C := "LatticeKeys$KeyPair") (TT := T_KP) (N := 3) (kd := (17, 0)) hx hb hts (wg_ft i_KP) hown hK hO kr21 (nxg clo_nil kr21 rfl) hP (fun _ h9 => h9) rfl 2 (by decide) (hts _ (wg_t kw_752)) (fun _ h9 => h9) (cd := (3, 1, 1632)) rfl dK_partOf_17 (fun v22 hv22 => ?_)
          obtain ⟨r23, rfl, kr23⟩ := (show ∃ r : Nat, v22 = .ref r ∧ T r = some (1, 1632) from hv22)
          refine lv_goto (tgt := 27) hx hb dK_partOf_20 (by decide) ?_
          exact mp_qret (v := (some r23)) hx hb hr (Or.inr ⟨_, rfl⟩) hlk hP hD hS pl ⟨(fun q h9 => ⟨1632, by decide, by cases h9; exact kr23⟩), hO⟩ [0] rfl rfl rfl (by omega) (by omega) dK_partOf_27
      | 1, _, hk9 =>
        have kr24 : T q21 = some (17, 1) := hk9
        refine lv_astore_n (lv' := [(3, .ref q21), (0, .ref h0), (1, .int v), (2, .int sc)]) hx hb dK_partOf_5 rfl hl (by decide) rfl (fun ls hl => ?_)
        refine lv_aload_n hx hb dK_partOf_6 rfl (lv_at hl 0 rfl) ?_
        refine lv_ifnonnull (tgt := 12) hx hb dK_partOf_7 (by decide) ?_
        refine lv_iload_n hx hb dK_partOf_12 rfl (lv_at hl 3 rfl) ?_
        refine lv_if_eq (tgt := 23) hx hb dK_partOf_13 (by decide) (fun h22 => ?_) (fun h22 => ?_)
        · refine lv_aload_n hx hb dK_partOf_23 rfl (lv_at hl 0 rfl) ?_
          refine ty_get (ci := 13) (C := "LatticeKeys$KeyPair") (TT := T_KP) (N := 3) (kd := (17, 1)) hx hb hts (wg_ft i_KP) hown hK hO kr24 (nxg clo_nil kr24 rfl) hP (fun _ h9 => h9) rfl 1 (by decide) (hts _ (wg_t kw_749)) (fun _ h9 => h9) (cd := (3, 1, 1184)) rfl dK_partOf_24 (fun v23 hv23 => ?_)
          obtain ⟨r24, rfl, kr25⟩ := (show ∃ r : Nat, v23 = .ref r ∧ T r = some (1, 1184) from hv23)
          exact mp_qret (v := (some r24)) hx hb hr (Or.inr ⟨_, rfl⟩) hlk hP hD hS pl ⟨(fun q h9 => ⟨1184, by decide, by cases h9; exact kr25⟩), hO⟩ [0] rfl rfl rfl (by omega) (by omega) dK_partOf_27
        · refine lv_aload_n hx hb dK_partOf_16 rfl (lv_at hl 0 rfl) ?_
          refine ty_get (ci := 13) (C := "LatticeKeys$KeyPair") (TT := T_KP) (N := 3) (kd := (17, 1)) hx hb hts (wg_ft i_KP) hown hK hO kr24 (nxg clo_nil kr24 rfl) hP (fun _ h9 => h9) rfl 2 (by decide) (hts _ (wg_t kw_752)) (fun _ h9 => h9) (cd := (3, 1, 2400)) rfl dK_partOf_17 (fun v24 hv24 => ?_)
          obtain ⟨r25, rfl, kr26⟩ := (show ∃ r : Nat, v24 = .ref r ∧ T r = some (1, 2400) from hv24)
          refine lv_goto (tgt := 27) hx hb dK_partOf_20 (by decide) ?_
          exact mp_qret (v := (some r25)) hx hb hr (Or.inr ⟨_, rfl⟩) hlk hP hD hS pl ⟨(fun q h9 => ⟨2400, by decide, by cases h9; exact kr26⟩), hO⟩ [0] rfl rfl rfl (by omega) (by omega) dK_partOf_27
      | 2, _, hk9 =>
        have kr27 : T q21 = some (17, 2) := hk9
        refine lv_astore_n (lv' := [(3, .ref q21), (0, .ref h0), (1, .int v), (2, .int sc)]) hx hb dK_partOf_5 rfl hl (by decide) rfl (fun ls hl => ?_)
        refine lv_aload_n hx hb dK_partOf_6 rfl (lv_at hl 0 rfl) ?_
        refine lv_ifnonnull (tgt := 12) hx hb dK_partOf_7 (by decide) ?_
        refine lv_iload_n hx hb dK_partOf_12 rfl (lv_at hl 3 rfl) ?_
        refine lv_if_eq (tgt := 23) hx hb dK_partOf_13 (by decide) (fun h23 => ?_) (fun h23 => ?_)
        · refine lv_aload_n hx hb dK_partOf_23 rfl (lv_at hl 0 rfl) ?_
          refine ty_get (ci := 13) (C := "LatticeKeys$KeyPair") (TT := T_KP) (N := 3) (kd := (17, 2)) hx hb hts (wg_ft i_KP) hown hK hO kr27 (nxg clo_nil kr27 rfl) hP (fun _ h9 => h9) rfl 1 (by decide) (hts _ (wg_t kw_749)) (fun _ h9 => h9) (cd := (3, 1, 1568)) rfl dK_partOf_24 (fun v25 hv25 => ?_)
          obtain ⟨r26, rfl, kr28⟩ := (show ∃ r : Nat, v25 = .ref r ∧ T r = some (1, 1568) from hv25)
          exact mp_qret (v := (some r26)) hx hb hr (Or.inr ⟨_, rfl⟩) hlk hP hD hS pl ⟨(fun q h9 => ⟨1568, by decide, by cases h9; exact kr28⟩), hO⟩ [0] rfl rfl rfl (by omega) (by omega) dK_partOf_27
        · refine lv_aload_n hx hb dK_partOf_16 rfl (lv_at hl 0 rfl) ?_
          refine ty_get (ci := 13) (C := "LatticeKeys$KeyPair") (TT := T_KP) (N := 3) (kd := (17, 2)) hx hb hts (wg_ft i_KP) hown hK hO kr27 (nxg clo_nil kr27 rfl) hP (fun _ h9 => h9) rfl 2 (by decide) (hts _ (wg_t kw_752)) (fun _ h9 => h9) (cd := (3, 1, 3168)) rfl dK_partOf_17 (fun v26 hv26 => ?_)
          obtain ⟨r27, rfl, kr29⟩ := (show ∃ r : Nat, v26 = .ref r ∧ T r = some (1, 3168) from hv26)
          refine lv_goto (tgt := 27) hx hb dK_partOf_20 (by decide) ?_
          exact mp_qret (v := (some r27)) hx hb hr (Or.inr ⟨_, rfl⟩) hlk hP hD hS pl ⟨(fun q h9 => ⟨3168, by decide, by cases h9; exact kr29⟩), hO⟩ [0] rfl rfl rfl (by omega) (by omega) dK_partOf_27
      | 3, _, hk9 =>
        have kr30 : T q21 = some (17, 3) := hk9
        refine lv_astore_n (lv' := [(3, .ref q21), (0, .ref h0), (1, .int v), (2, .int sc)]) hx hb dK_partOf_5 rfl hl (by decide) rfl (fun ls hl => ?_)
        refine lv_aload_n hx hb dK_partOf_6 rfl (lv_at hl 0 rfl) ?_
        refine lv_ifnonnull (tgt := 12) hx hb dK_partOf_7 (by decide) ?_
        refine lv_iload_n hx hb dK_partOf_12 rfl (lv_at hl 3 rfl) ?_
        refine lv_if_eq (tgt := 23) hx hb dK_partOf_13 (by decide) (fun h24 => ?_) (fun h24 => ?_)
        · refine lv_aload_n hx hb dK_partOf_23 rfl (lv_at hl 0 rfl) ?_
          refine ty_get (ci := 13) (C := "LatticeKeys$KeyPair") (TT := T_KP) (N := 3) (kd := (17, 3)) hx hb hts (wg_ft i_KP) hown hK hO kr30 (nxg clo_nil kr30 rfl) hP (fun _ h9 => h9) rfl 1 (by decide) (hts _ (wg_t kw_749)) (fun _ h9 => h9) (cd := (3, 1, 1312)) rfl dK_partOf_24 (fun v27 hv27 => ?_)
          obtain ⟨r28, rfl, kr31⟩ := (show ∃ r : Nat, v27 = .ref r ∧ T r = some (1, 1312) from hv27)
          exact mp_qret (v := (some r28)) hx hb hr (Or.inr ⟨_, rfl⟩) hlk hP hD hS pl ⟨(fun q h9 => ⟨1312, by decide, by cases h9; exact kr31⟩), hO⟩ [0] rfl rfl rfl (by omega) (by omega) dK_partOf_27
        · refine lv_aload_n hx hb dK_partOf_16 rfl (lv_at hl 0 rfl) ?_
          refine ty_get (ci := 13) (C := "LatticeKeys$KeyPair") (TT := T_KP) (N := 3) (kd := (17, 3)) hx hb hts (wg_ft i_KP) hown hK hO kr30 (nxg clo_nil kr30 rfl) hP (fun _ h9 => h9) rfl 2 (by decide) (hts _ (wg_t kw_752)) (fun _ h9 => h9) (cd := (3, 1, 2560)) rfl dK_partOf_17 (fun v28 hv28 => ?_)
          obtain ⟨r29, rfl, kr32⟩ := (show ∃ r : Nat, v28 = .ref r ∧ T r = some (1, 2560) from hv28)
          refine lv_goto (tgt := 27) hx hb dK_partOf_20 (by decide) ?_
          exact mp_qret (v := (some r29)) hx hb hr (Or.inr ⟨_, rfl⟩) hlk hP hD hS pl ⟨(fun q h9 => ⟨2560, by decide, by cases h9; exact kr32⟩), hO⟩ [0] rfl rfl rfl (by omega) (by omega) dK_partOf_27
      | 4, _, hk9 =>
        have kr33 : T q21 = some (17, 4) := hk9
        refine lv_astore_n (lv' := [(3, .ref q21), (0, .ref h0), (1, .int v), (2, .int sc)]) hx hb dK_partOf_5 rfl hl (by decide) rfl (fun ls hl => ?_)
        refine lv_aload_n hx hb dK_partOf_6 rfl (lv_at hl 0 rfl) ?_
        refine lv_ifnonnull (tgt := 12) hx hb dK_partOf_7 (by decide) ?_
        refine lv_iload_n hx hb dK_partOf_12 rfl (lv_at hl 3 rfl) ?_
        refine lv_if_eq (tgt := 23) hx hb dK_partOf_13 (by decide) (fun h25 => ?_) (fun h25 => ?_)
        · refine lv_aload_n hx hb dK_partOf_23 rfl (lv_at hl 0 rfl) ?_
          refine ty_get (ci := 13) (C := "LatticeKeys$KeyPair") (TT := T_KP) (N := 3) (kd := (17, 4)) hx hb hts (wg_ft i_KP) hown hK hO kr33 (nxg clo_nil kr33 rfl) hP (fun _ h9 => h9) rfl 1 (by decide) (hts _ (wg_t kw_749)) (fun _ h9 => h9) (cd := (3, 1, 1952)) rfl dK_partOf_24 (fun v29 hv29 => ?_)
          obtain ⟨r30, rfl, kr34⟩ := (show ∃ r : Nat, v29 = .ref r ∧ T r = some (1, 1952) from hv29)
          exact mp_qret (v := (some r30)) hx hb hr (Or.inr ⟨_, rfl⟩) hlk hP hD hS pl ⟨(fun q h9 => ⟨1952, by decide, by cases h9; exact kr34⟩), hO⟩ [0] rfl rfl rfl (by omega) (by omega) dK_partOf_27
        · refine lv_aload_n hx hb dK_partOf_16 rfl (lv_at hl 0 rfl) ?_
          refine ty_get (ci := 13) (C := "LatticeKeys$KeyPair") (TT := T_KP) (N := 3) (kd := (17, 4)) hx hb hts (wg_ft i_KP) hown hK hO kr33 (nxg clo_nil kr33 rfl) hP (fun _ h9 => h9) rfl 2 (by decide) (hts _ (wg_t kw_752)) (fun _ h9 => h9) (cd := (3, 1, 4032)) rfl dK_partOf_17 (fun v30 hv30 => ?_)
          obtain ⟨r31, rfl, kr35⟩ := (show ∃ r : Nat, v30 = .ref r ∧ T r = some (1, 4032) from hv30)
          refine lv_goto (tgt := 27) hx hb dK_partOf_20 (by decide) ?_
          exact mp_qret (v := (some r31)) hx hb hr (Or.inr ⟨_, rfl⟩) hlk hP hD hS pl ⟨(fun q h9 => ⟨4032, by decide, by cases h9; exact kr35⟩), hO⟩ [0] rfl rfl rfl (by omega) (by omega) dK_partOf_27
      | 5, _, hk9 =>
        have kr36 : T q21 = some (17, 5) := hk9
        refine lv_astore_n (lv' := [(3, .ref q21), (0, .ref h0), (1, .int v), (2, .int sc)]) hx hb dK_partOf_5 rfl hl (by decide) rfl (fun ls hl => ?_)
        refine lv_aload_n hx hb dK_partOf_6 rfl (lv_at hl 0 rfl) ?_
        refine lv_ifnonnull (tgt := 12) hx hb dK_partOf_7 (by decide) ?_
        refine lv_iload_n hx hb dK_partOf_12 rfl (lv_at hl 3 rfl) ?_
        refine lv_if_eq (tgt := 23) hx hb dK_partOf_13 (by decide) (fun h26 => ?_) (fun h26 => ?_)
        · refine lv_aload_n hx hb dK_partOf_23 rfl (lv_at hl 0 rfl) ?_
          refine ty_get (ci := 13) (C := "LatticeKeys$KeyPair") (TT := T_KP) (N := 3) (kd := (17, 5)) hx hb hts (wg_ft i_KP) hown hK hO kr36 (nxg clo_nil kr36 rfl) hP (fun _ h9 => h9) rfl 1 (by decide) (hts _ (wg_t kw_749)) (fun _ h9 => h9) (cd := (3, 1, 2592)) rfl dK_partOf_24 (fun v31 hv31 => ?_)
          obtain ⟨r32, rfl, kr37⟩ := (show ∃ r : Nat, v31 = .ref r ∧ T r = some (1, 2592) from hv31)
          exact mp_qret (v := (some r32)) hx hb hr (Or.inr ⟨_, rfl⟩) hlk hP hD hS pl ⟨(fun q h9 => ⟨2592, by decide, by cases h9; exact kr37⟩), hO⟩ [0] rfl rfl rfl (by omega) (by omega) dK_partOf_27
        · refine lv_aload_n hx hb dK_partOf_16 rfl (lv_at hl 0 rfl) ?_
          refine ty_get (ci := 13) (C := "LatticeKeys$KeyPair") (TT := T_KP) (N := 3) (kd := (17, 5)) hx hb hts (wg_ft i_KP) hown hK hO kr36 (nxg clo_nil kr36 rfl) hP (fun _ h9 => h9) rfl 2 (by decide) (hts _ (wg_t kw_752)) (fun _ h9 => h9) (cd := (3, 1, 4896)) rfl dK_partOf_17 (fun v32 hv32 => ?_)
          obtain ⟨r33, rfl, kr38⟩ := (show ∃ r : Nat, v32 = .ref r ∧ T r = some (1, 4896) from hv32)
          refine lv_goto (tgt := 27) hx hb dK_partOf_20 (by decide) ?_
          exact mp_qret (v := (some r33)) hx hb hr (Or.inr ⟨_, rfl⟩) hlk hP hD hS pl ⟨(fun q h9 => ⟨4896, by decide, by cases h9; exact kr38⟩), hO⟩ [0] rfl rfl rfl (by omega) (by omega) dK_partOf_27
      | _ + 6, h9, _ => exact absurd h9 (by omega)
    · match s9, hs9, hk9 with
      | 0, _, hk9 =>
        have kr39 : T q21 = some (16, 0) := hk9
        refine lv_astore_n (lv' := [(3, .ref q21), (0, .ref h0), (1, .int v), (2, .int sc)]) hx hb dK_partOf_5 rfl hl (by decide) rfl (fun ls hl => ?_)
        refine lv_aload_n hx hb dK_partOf_6 rfl (lv_at hl 0 rfl) ?_
        refine lv_ifnonnull (tgt := 12) hx hb dK_partOf_7 (by decide) ?_
        refine lv_iload_n hx hb dK_partOf_12 rfl (lv_at hl 3 rfl) ?_
        refine lv_if_eq (tgt := 23) hx hb dK_partOf_13 (by decide) (fun h27 => ?_) (fun h27 => ?_)
        · refine lv_aload_n hx hb dK_partOf_23 rfl (lv_at hl 0 rfl) ?_
          refine ty_get (ci := 13) (C := "LatticeKeys$KeyPair") (TT := T_KP) (N := 3) (kd := (16, 0)) hx hb hts (wg_ft i_KP) hown hK hO kr39 (nxg clo_nil kr39 rfl) hP (fun _ h9 => h9) rfl 1 (by decide) (hts _ (wg_t kw_749)) (fun _ h9 => h9) (cd := (3, 1, 800)) rfl dK_partOf_24 (fun v33 hv33 => ?_)
          obtain ⟨r34, rfl, kr40⟩ := (show ∃ r : Nat, v33 = .ref r ∧ T r = some (1, 800) from hv33)
          exact mp_qret (v := (some r34)) hx hb hr (Or.inr ⟨_, rfl⟩) hlk hP hD hS pl ⟨(fun q h9 => ⟨800, by decide, by cases h9; exact kr40⟩), hO⟩ [0] rfl rfl rfl (by omega) (by omega) dK_partOf_27
        · refine lv_aload_n hx hb dK_partOf_16 rfl (lv_at hl 0 rfl) ?_
          refine ty_get (ci := 13) (C := "LatticeKeys$KeyPair") (TT := T_KP) (N := 3) (kd := (16, 0)) hx hb hts (wg_ft i_KP) hown hK hO kr39 (nxg clo_nil kr39 rfl) hP (fun _ h9 => h9) rfl 2 (by decide) (hts _ (wg_t kw_752)) (fun _ h9 => h9) (cd := (7, 0, 0)) rfl dK_partOf_17 (fun v34 hv34 => ?_)
          obtain rfl := (show v34 = .null from hv34)
          refine lv_goto (tgt := 27) hx hb dK_partOf_20 (by decide) ?_
          exact mp_qret (v := none) hx hb hr (Or.inr ⟨_, rfl⟩) hlk hP hD hS pl ⟨(fun q h9 => nomatch h9), hO⟩ [0] rfl rfl rfl (by omega) (by omega) dK_partOf_27
      | 1, _, hk9 =>
        have kr41 : T q21 = some (16, 1) := hk9
        refine lv_astore_n (lv' := [(3, .ref q21), (0, .ref h0), (1, .int v), (2, .int sc)]) hx hb dK_partOf_5 rfl hl (by decide) rfl (fun ls hl => ?_)
        refine lv_aload_n hx hb dK_partOf_6 rfl (lv_at hl 0 rfl) ?_
        refine lv_ifnonnull (tgt := 12) hx hb dK_partOf_7 (by decide) ?_
        refine lv_iload_n hx hb dK_partOf_12 rfl (lv_at hl 3 rfl) ?_
        refine lv_if_eq (tgt := 23) hx hb dK_partOf_13 (by decide) (fun h28 => ?_) (fun h28 => ?_)
        · refine lv_aload_n hx hb dK_partOf_23 rfl (lv_at hl 0 rfl) ?_
          refine ty_get (ci := 13) (C := "LatticeKeys$KeyPair") (TT := T_KP) (N := 3) (kd := (16, 1)) hx hb hts (wg_ft i_KP) hown hK hO kr41 (nxg clo_nil kr41 rfl) hP (fun _ h9 => h9) rfl 1 (by decide) (hts _ (wg_t kw_749)) (fun _ h9 => h9) (cd := (3, 1, 1184)) rfl dK_partOf_24 (fun v35 hv35 => ?_)
          obtain ⟨r35, rfl, kr42⟩ := (show ∃ r : Nat, v35 = .ref r ∧ T r = some (1, 1184) from hv35)
          exact mp_qret (v := (some r35)) hx hb hr (Or.inr ⟨_, rfl⟩) hlk hP hD hS pl ⟨(fun q h9 => ⟨1184, by decide, by cases h9; exact kr42⟩), hO⟩ [0] rfl rfl rfl (by omega) (by omega) dK_partOf_27
        · refine lv_aload_n hx hb dK_partOf_16 rfl (lv_at hl 0 rfl) ?_
          refine ty_get (ci := 13) (C := "LatticeKeys$KeyPair") (TT := T_KP) (N := 3) (kd := (16, 1)) hx hb hts (wg_ft i_KP) hown hK hO kr41 (nxg clo_nil kr41 rfl) hP (fun _ h9 => h9) rfl 2 (by decide) (hts _ (wg_t kw_752)) (fun _ h9 => h9) (cd := (7, 0, 0)) rfl dK_partOf_17 (fun v36 hv36 => ?_)
          obtain rfl := (show v36 = .null from hv36)
          refine lv_goto (tgt := 27) hx hb dK_partOf_20 (by decide) ?_
          exact mp_qret (v := none) hx hb hr (Or.inr ⟨_, rfl⟩) hlk hP hD hS pl ⟨(fun q h9 => nomatch h9), hO⟩ [0] rfl rfl rfl (by omega) (by omega) dK_partOf_27
      | 2, _, hk9 =>
        have kr43 : T q21 = some (16, 2) := hk9
        refine lv_astore_n (lv' := [(3, .ref q21), (0, .ref h0), (1, .int v), (2, .int sc)]) hx hb dK_partOf_5 rfl hl (by decide) rfl (fun ls hl => ?_)
        refine lv_aload_n hx hb dK_partOf_6 rfl (lv_at hl 0 rfl) ?_
        refine lv_ifnonnull (tgt := 12) hx hb dK_partOf_7 (by decide) ?_
        refine lv_iload_n hx hb dK_partOf_12 rfl (lv_at hl 3 rfl) ?_
        refine lv_if_eq (tgt := 23) hx hb dK_partOf_13 (by decide) (fun h29 => ?_) (fun h29 => ?_)
        · refine lv_aload_n hx hb dK_partOf_23 rfl (lv_at hl 0 rfl) ?_
          refine ty_get (ci := 13) (C := "LatticeKeys$KeyPair") (TT := T_KP) (N := 3) (kd := (16, 2)) hx hb hts (wg_ft i_KP) hown hK hO kr43 (nxg clo_nil kr43 rfl) hP (fun _ h9 => h9) rfl 1 (by decide) (hts _ (wg_t kw_749)) (fun _ h9 => h9) (cd := (3, 1, 1568)) rfl dK_partOf_24 (fun v37 hv37 => ?_)
          obtain ⟨r36, rfl, kr44⟩ := (show ∃ r : Nat, v37 = .ref r ∧ T r = some (1, 1568) from hv37)
          exact mp_qret (v := (some r36)) hx hb hr (Or.inr ⟨_, rfl⟩) hlk hP hD hS pl ⟨(fun q h9 => ⟨1568, by decide, by cases h9; exact kr44⟩), hO⟩ [0] rfl rfl rfl (by omega) (by omega) dK_partOf_27
        · refine lv_aload_n hx hb dK_partOf_16 rfl (lv_at hl 0 rfl) ?_
          refine ty_get (ci := 13) (C := "LatticeKeys$KeyPair") (TT := T_KP) (N := 3) (kd := (16, 2)) hx hb hts (wg_ft i_KP) hown hK hO kr43 (nxg clo_nil kr43 rfl) hP (fun _ h9 => h9) rfl 2 (by decide) (hts _ (wg_t kw_752)) (fun _ h9 => h9) (cd := (7, 0, 0)) rfl dK_partOf_17 (fun v38 hv38 => ?_)
          obtain rfl := (show v38 = .null from hv38)
          refine lv_goto (tgt := 27) hx hb dK_partOf_20 (by decide) ?_
          exact mp_qret (v := none) hx hb hr (Or.inr ⟨_, rfl⟩) hlk hP hD hS pl ⟨(fun q h9 => nomatch h9), hO⟩ [0] rfl rfl rfl (by omega) (by omega) dK_partOf_27
      | 3, _, hk9 =>
        have kr45 : T q21 = some (16, 3) := hk9
        refine lv_astore_n (lv' := [(3, .ref q21), (0, .ref h0), (1, .int v), (2, .int sc)]) hx hb dK_partOf_5 rfl hl (by decide) rfl (fun ls hl => ?_)
        refine lv_aload_n hx hb dK_partOf_6 rfl (lv_at hl 0 rfl) ?_
        refine lv_ifnonnull (tgt := 12) hx hb dK_partOf_7 (by decide) ?_
        refine lv_iload_n hx hb dK_partOf_12 rfl (lv_at hl 3 rfl) ?_
        refine lv_if_eq (tgt := 23) hx hb dK_partOf_13 (by decide) (fun h30 => ?_) (fun h30 => ?_)
        · refine lv_aload_n hx hb dK_partOf_23 rfl (lv_at hl 0 rfl) ?_
          refine ty_get (ci := 13) (C := "LatticeKeys$KeyPair") (TT := T_KP) (N := 3) (kd := (16, 3)) hx hb hts (wg_ft i_KP) hown hK hO kr45 (nxg clo_nil kr45 rfl) hP (fun _ h9 => h9) rfl 1 (by decide) (hts _ (wg_t kw_749)) (fun _ h9 => h9) (cd := (3, 1, 1312)) rfl dK_partOf_24 (fun v39 hv39 => ?_)
          obtain ⟨r37, rfl, kr46⟩ := (show ∃ r : Nat, v39 = .ref r ∧ T r = some (1, 1312) from hv39)
          exact mp_qret (v := (some r37)) hx hb hr (Or.inr ⟨_, rfl⟩) hlk hP hD hS pl ⟨(fun q h9 => ⟨1312, by decide, by cases h9; exact kr46⟩), hO⟩ [0] rfl rfl rfl (by omega) (by omega) dK_partOf_27
        · refine lv_aload_n hx hb dK_partOf_16 rfl (lv_at hl 0 rfl) ?_
          refine ty_get (ci := 13) (C := "LatticeKeys$KeyPair") (TT := T_KP) (N := 3) (kd := (16, 3)) hx hb hts (wg_ft i_KP) hown hK hO kr45 (nxg clo_nil kr45 rfl) hP (fun _ h9 => h9) rfl 2 (by decide) (hts _ (wg_t kw_752)) (fun _ h9 => h9) (cd := (7, 0, 0)) rfl dK_partOf_17 (fun v40 hv40 => ?_)
          obtain rfl := (show v40 = .null from hv40)
          refine lv_goto (tgt := 27) hx hb dK_partOf_20 (by decide) ?_
          exact mp_qret (v := none) hx hb hr (Or.inr ⟨_, rfl⟩) hlk hP hD hS pl ⟨(fun q h9 => nomatch h9), hO⟩ [0] rfl rfl rfl (by omega) (by omega) dK_partOf_27
      | 4, _, hk9 =>
        have kr47 : T q21 = some (16, 4) := hk9
        refine lv_astore_n (lv' := [(3, .ref q21), (0, .ref h0), (1, .int v), (2, .int sc)]) hx hb dK_partOf_5 rfl hl (by decide) rfl (fun ls hl => ?_)
        refine lv_aload_n hx hb dK_partOf_6 rfl (lv_at hl 0 rfl) ?_
        refine lv_ifnonnull (tgt := 12) hx hb dK_partOf_7 (by decide) ?_
        refine lv_iload_n hx hb dK_partOf_12 rfl (lv_at hl 3 rfl) ?_
        refine lv_if_eq (tgt := 23) hx hb dK_partOf_13 (by decide) (fun h31 => ?_) (fun h31 => ?_)
        · refine lv_aload_n hx hb dK_partOf_23 rfl (lv_at hl 0 rfl) ?_
          refine ty_get (ci := 13) (C := "LatticeKeys$KeyPair") (TT := T_KP) (N := 3) (kd := (16, 4)) hx hb hts (wg_ft i_KP) hown hK hO kr47 (nxg clo_nil kr47 rfl) hP (fun _ h9 => h9) rfl 1 (by decide) (hts _ (wg_t kw_749)) (fun _ h9 => h9) (cd := (3, 1, 1952)) rfl dK_partOf_24 (fun v41 hv41 => ?_)
          obtain ⟨r38, rfl, kr48⟩ := (show ∃ r : Nat, v41 = .ref r ∧ T r = some (1, 1952) from hv41)
          exact mp_qret (v := (some r38)) hx hb hr (Or.inr ⟨_, rfl⟩) hlk hP hD hS pl ⟨(fun q h9 => ⟨1952, by decide, by cases h9; exact kr48⟩), hO⟩ [0] rfl rfl rfl (by omega) (by omega) dK_partOf_27
        · refine lv_aload_n hx hb dK_partOf_16 rfl (lv_at hl 0 rfl) ?_
          refine ty_get (ci := 13) (C := "LatticeKeys$KeyPair") (TT := T_KP) (N := 3) (kd := (16, 4)) hx hb hts (wg_ft i_KP) hown hK hO kr47 (nxg clo_nil kr47 rfl) hP (fun _ h9 => h9) rfl 2 (by decide) (hts _ (wg_t kw_752)) (fun _ h9 => h9) (cd := (7, 0, 0)) rfl dK_partOf_17 (fun v42 hv42 => ?_)
          obtain rfl := (show v42 = .null from hv42)
          refine lv_goto (tgt := 27) hx hb dK_partOf_20 (by decide) ?_
          exact mp_qret (v := none) hx hb hr (Or.inr ⟨_, rfl⟩) hlk hP hD hS pl ⟨(fun q h9 => nomatch h9), hO⟩ [0] rfl rfl rfl (by omega) (by omega) dK_partOf_27
      | 5, _, hk9 =>
        have kr49 : T q21 = some (16, 5) := hk9
        refine lv_astore_n (lv' := [(3, .ref q21), (0, .ref h0), (1, .int v), (2, .int sc)]) hx hb dK_partOf_5 rfl hl (by decide) rfl (fun ls hl => ?_)
        refine lv_aload_n hx hb dK_partOf_6 rfl (lv_at hl 0 rfl) ?_
        refine lv_ifnonnull (tgt := 12) hx hb dK_partOf_7 (by decide) ?_
        refine lv_iload_n hx hb dK_partOf_12 rfl (lv_at hl 3 rfl) ?_
        refine lv_if_eq (tgt := 23) hx hb dK_partOf_13 (by decide) (fun h32 => ?_) (fun h32 => ?_)
        · refine lv_aload_n hx hb dK_partOf_23 rfl (lv_at hl 0 rfl) ?_
          refine ty_get (ci := 13) (C := "LatticeKeys$KeyPair") (TT := T_KP) (N := 3) (kd := (16, 5)) hx hb hts (wg_ft i_KP) hown hK hO kr49 (nxg clo_nil kr49 rfl) hP (fun _ h9 => h9) rfl 1 (by decide) (hts _ (wg_t kw_749)) (fun _ h9 => h9) (cd := (3, 1, 2592)) rfl dK_partOf_24 (fun v43 hv43 => ?_)
          obtain ⟨r39, rfl, kr50⟩ := (show ∃ r : Nat, v43 = .ref r ∧ T r = some (1, 2592) from hv43)
          exact mp_qret (v := (some r39)) hx hb hr (Or.inr ⟨_, rfl⟩) hlk hP hD hS pl ⟨(fun q h9 => ⟨2592, by decide, by cases h9; exact kr50⟩), hO⟩ [0] rfl rfl rfl (by omega) (by omega) dK_partOf_27
        · refine lv_aload_n hx hb dK_partOf_16 rfl (lv_at hl 0 rfl) ?_
          refine ty_get (ci := 13) (C := "LatticeKeys$KeyPair") (TT := T_KP) (N := 3) (kd := (16, 5)) hx hb hts (wg_ft i_KP) hown hK hO kr49 (nxg clo_nil kr49 rfl) hP (fun _ h9 => h9) rfl 2 (by decide) (hts _ (wg_t kw_752)) (fun _ h9 => h9) (cd := (7, 0, 0)) rfl dK_partOf_17 (fun v44 hv44 => ?_)
          obtain rfl := (show v44 = .null from hv44)
          refine lv_goto (tgt := 27) hx hb dK_partOf_20 (by decide) ?_
          exact mp_qret (v := none) hx hb hr (Or.inr ⟨_, rfl⟩) hlk hP hD hS pl ⟨(fun q h9 => nomatch h9), hO⟩ [0] rfl rfl rfl (by omega) (by omega) dK_partOf_27
      | _ + 6, h9, _ => exact absurd h9 (by omega)
set_option maxHeartbeats 4000000 in
set_option maxRecDepth 100000 in
theorem t_K_holdsContext (l : Launch) (g : Gd) (sz : Nat) (T : Ty) (pl : va_W) (hO : okx g T [] pl) (hU : uni T) (bf : Nat) (v : Int32) (h0 kt ka kp kks kds ksp kkm kda tl al pn : Nat) (k_kt : T kt = some (1, 16384)) (k_ka : T ka = some (1, 8192)) (k_kp : T kp = some (6, 0)) (k_kks : T kks = some (50, 0)) (k_kds : T kds = some (51, 0)) (k_ksp : T ksp = some (10, 0)) (k_kkm : T kkm = some (13, 0)) (k_kda : T kda = some (15, 0)) (hb : tl ≤ 16384 ∧ al ≤ 8192 ∧ pn ≤ 8) (h1 : bf < 65536)  : Met l y_K_holdsContext w_K_holdsContext ({ frames := 0, cells := 0, slots := 0, locals := 0 } : Room) (va_Pc [.ref h0, .int (nI bf), .int v] (pr (en g) g.1 vcl sz ([(h0, .inr (0, [.ref kt, .int (nI tl), .ref ka, .int (nI al), .ref kp, .int (nI pn), .ref kks, .ref kds, .ref ksp, .ref kkm, .ref kda]))] ++ pl))) (va_Qi (fun (r : Int32) (u : va_W) => (r = nI 0 ∨ (r = nI 1 ∧ ∃ z : Nat, z ≤ 255 ∧ v = nI z ∧ bf + z ≤ tl)) ∧ okx g T [] u) (po g.1 vcl (va_A ([(h0, .inr (0, [.ref kt, .int (nI tl), .ref ka, .int (nI al), .ref kp, .int (nI pn), .ref kks, .ref kds, .ref ksp, .ref kkm, .ref kda]))] ++ pl) sz) (fun (u : va_W) => [(h0, .inr (0, [.ref kt, .int (nI tl), .ref ka, .int (nI al), .ref kp, .int (nI pn), .ref kks, .ref kds, .ref ksp, .ref kkm, .ref kda]))] ++ u)) (va_A ([(h0, .inr (0, [.ref kt, .int (nI tl), .ref ka, .int (nI al), .ref kp, .int (nI pn), .ref kks, .ref kds, .ref ksp, .ref kkm, .ref kda]))] ++ pl) sz)) 0 0 (va_A ([(h0, .inr (0, [.ref kt, .int (nI tl), .ref ka, .int (nI al), .ref kp, .int (nI pn), .ref kks, .ref kds, .ref ksp, .ref kkm, .ref kda]))] ++ pl) sz) := by
  refine mc_entry (cc := c_K_holdsContext) (maxL := 3) (ret := (some .boolean)) (by decide) rfl (Nat.le_of_ble_eq_true rfl) ?_
  intro p e s m args below meth c ls F hr hlk hnm hsz hP hD hE hA hl
  obtain ⟨hx, hb, hml, hown, hts⟩ := id F
  have hK := hE.1
  generalize va_A ([(h0, .inr (0, [.ref kt, .int (nI tl), .ref ka, .int (nI al), .ref kp, .int (nI pn), .ref kks, .ref kds, .ref ksp, .ref kkm, .ref kda]))] ++ pl) sz = A at hD hE hA ⊢
  have hS : va_S A s.heap s.heap [] := va_S.rf
  have hl : lv_has ls 3 [(0, .ref h0), (1, .int (nI bf)), (2, .int v)] := hl
  refine lv_iload_n hx hb dK_holdsContext_0 rfl (lv_at hl 2 rfl) ?_
  refine lv_if_lt (tgt := 25) hx hb dK_holdsContext_1 (by decide) (fun h21 => ?_) (fun h21 => ?_)
  · refine lv_iconst (v := nI 0) hx hb dK_holdsContext_25 (by decide) ?_
    exact mp_zret hx hb hr hlk rfl hP hD hS pl ⟨(Or.inl rfl), hO⟩ [0] rfl rfl rfl (by omega) (by omega) dK_holdsContext_26
  · refine lv_iload_n hx hb dK_holdsContext_4 rfl (lv_at hl 2 rfl) ?_
    refine lv_sipush (v := nI 255) hx hb dK_holdsContext_5 (by decide) ?_
    refine lv_icmp_gt (tgt := 25) hx hb dK_holdsContext_8 (by decide) (fun h22 => ?_) (fun h22 => ?_)
    · refine lv_iconst (v := nI 0) hx hb dK_holdsContext_25 (by decide) ?_
      exact mp_zret hx hb hr hlk rfl hP hD hS pl ⟨(Or.inl rfl), hO⟩ [0] rfl rfl rfl (by omega) (by omega) dK_holdsContext_26
    · obtain ⟨z21, hz21, rfl⟩ := i32_lex h21 (by omega) h22
      refine lv_aload_n hx hb dK_holdsContext_11 rfl (lv_at hl 0 rfl) ?_
      refine va_get (D := g.1) (ci := 0) (C := "LatticeKeys") (T := T_K) (N := 11) hx hb hts (wg_ft i_K) hown hK hP 0 rfl rfl 1 (by decide) (hts _ (wg_t kw_375)) (fun _ h9 => h9) rfl dK_holdsContext_12 ?_
      refine lv_iload_n hx hb dK_holdsContext_15 rfl (lv_at hl 1 rfl) ?_
      refine lv_iload_n hx hb dK_holdsContext_16 rfl (lv_at hl 2 rfl) ?_
      refine mi_iadd hx hb dK_holdsContext_17 ?_
      refine mi_lt (tgt := 25) hx hb dK_holdsContext_18 (by decide) (by omega) (by omega) (fun h23 => ?_) (fun h23 => ?_)
      · refine lv_iconst (v := nI 0) hx hb dK_holdsContext_25 (by decide) ?_
        exact mp_zret hx hb hr hlk rfl hP hD hS pl ⟨(Or.inl rfl), hO⟩ [0] rfl rfl rfl (by omega) (by omega) dK_holdsContext_26
      · refine lv_iconst (v := nI 1) hx hb dK_holdsContext_21 (by decide) ?_
        refine lv_goto (tgt := 26) hx hb dK_holdsContext_22 (by decide) ?_
        exact mp_zret hx hb hr hlk rfl hP hD hS pl ⟨(Or.inr ⟨rfl, _, by omega, rfl, by omega⟩), hO⟩ [0] rfl rfl rfl (by omega) (by omega) dK_holdsContext_26
set_option maxHeartbeats 4000000 in
set_option maxRecDepth 100000 in
theorem t_K_secretFromTape_0 (l : Launch) (g : Gd) (sz : Nat) (T : Ty) (pl : va_W) (hO : okx g T [] pl) (hU : uni T) (h0 kt ka kp kks kds ksp kkm kda tl al pn : Nat) (k_kt : T kt = some (1, 16384)) (k_ka : T ka = some (1, 8192)) (k_kp : T kp = some (6, 0)) (k_kks : T kks = some (50, 0)) (k_kds : T kds = some (51, 0)) (k_ksp : T ksp = some (10, 0)) (k_kkm : T kkm = some (13, 0)) (k_kda : T kda = some (15, 0)) (hb : tl ≤ 16384 ∧ al ≤ 8192 ∧ pn ≤ 8) (h1 : tl = 1632)  : Met l y_K_secretFromTape w_K_secretFromTape ({ frames := 3, cells := 3, slots := 7491, locals := 106 } : Room) (va_Pc [.ref h0, .int (nI 0)] (pr (en g) g.1 vcl sz ([(h0, .inr (0, [.ref kt, .int (nI tl), .ref ka, .int (nI al), .ref kp, .int (nI pn), .ref kks, .ref kds, .ref ksp, .ref kkm, .ref kda]))] ++ pl))) (va_Qq (fun (r : Option Nat) (u : (Ty) × va_W) => (ext T u.1 ∧ uni u.1 ∧ ∃ q, r = some q ∧ u.1 q = some (17, 0)) ∧ okx g u.1 [] u.2) (po g.1 vcl (va_A ([(h0, .inr (0, [.ref kt, .int (nI tl), .ref ka, .int (nI al), .ref kp, .int (nI pn), .ref kks, .ref kds, .ref ksp, .ref kkm, .ref kda]))] ++ pl) sz) (fun (u : (Ty) × va_W) => [(h0, .inr (0, [.ref kt, .int (nI tl), .ref ka, .int (nI al), .ref kp, .int (nI pn), .ref kks, .ref kds, .ref ksp, .ref kkm, .ref kda]))] ++ u.2)) (va_A ([(h0, .inr (0, [.ref kt, .int (nI tl), .ref ka, .int (nI al), .ref kp, .int (nI pn), .ref kks, .ref kds, .ref ksp, .ref kkm, .ref kda]))] ++ pl) sz)) 3 7491 (va_A ([(h0, .inr (0, [.ref kt, .int (nI tl), .ref ka, .int (nI al), .ref kp, .int (nI pn), .ref kks, .ref kds, .ref ksp, .ref kkm, .ref kda]))] ++ pl) sz) := by
  refine mc_entry (cc := c_K_secretFromTape) (maxL := 4) (ret := (Option.some (Jvm.ClassFile.FieldType.object "LatticeKeys$KeyPair"))) (by decide) rfl (Nat.le_of_ble_eq_true rfl) ?_
  intro p e s m args below meth c ls F hr hlk hnm hsz hP hD hE hA hl
  obtain ⟨hx, hb, hml, hown, hts⟩ := id F
  have hK := hE.1
  generalize va_A ([(h0, .inr (0, [.ref kt, .int (nI tl), .ref ka, .int (nI al), .ref kp, .int (nI pn), .ref kks, .ref kds, .ref ksp, .ref kkm, .ref kda]))] ++ pl) sz = A at hD hE hA ⊢
  have hXT : ext T T := ext_rf
  have hS : va_S A s.heap s.heap [] := va_S.rf
  have hl : lv_has ls 4 [(0, .ref h0), (1, .int (nI 0))] := hl
  refine lv_aload_n hx hb dK_secretFromTape_0 rfl (lv_at hl 0 rfl) ?_
  refine va_get (D := g.1) (ci := 0) (C := "LatticeKeys") (T := T_K) (N := 11) hx hb hts (wg_ft i_K) hown hK hP 0 rfl rfl 6 (by decide) (hts _ (wg_t kw_380)) (fun _ h9 => h9) rfl dK_secretFromTape_1 ?_
  refine lv_iload_n hx hb dK_secretFromTape_4 rfl (lv_at hl 1 rfl) ?_
  refine ty_aald50 hx hb hK hO k_kks (nxg clo_nil k_kks rfl) hP (by omega) dK_secretFromTape_5 (fun r21 kr21 => ?_)
  refine ty_get (ci := 1) (C := "LatticeKeys$KemSet") (TT := T_KS) (N := 10) (kd := (40, 0)) hx hb hts (wg_ft i_KS) hown hK hO kr21 (nxg clo_nil kr21 rfl) hP (fun _ h9 => h9) rfl 7 (by decide) (hts _ (wg_t kw_248)) (fun _ h9 => h9) (cd := (1, 0, 768)) rfl dK_secretFromTape_6 (fun v21 hv21 => ?_)
  obtain rfl := (show v21 = .int (nI 768) from hv21)
  refine lv_istore_n (lv' := [(2, .int (nI 768)), (0, .ref h0), (1, .int (nI 0))]) hx hb dK_secretFromTape_9 rfl hl (by decide) rfl (fun ls hl => ?_)
  refine lv_aload_n hx hb dK_secretFromTape_10 rfl (lv_at hl 1 rfl) ?_
  refine va_get (D := g.1) (ci := 0) (C := "LatticeKeys") (T := T_K) (N := 11) hx hb hts (wg_ft i_K) hown hK hP 0 rfl rfl 0 (by decide) (hts _ (wg_t kw_374)) (fun _ h9 => h9) rfl dK_secretFromTape_11 ?_
  refine lv_iload_n hx hb dK_secretFromTape_14 rfl (lv_at hl 0 rfl) ?_
  refine lv_iload_n hx hb dK_secretFromTape_15 rfl (lv_at hl 0 rfl) ?_
  refine lv_aload_n hx hb dK_secretFromTape_16 rfl (lv_at hl 1 rfl) ?_
  refine lv_iload_n hx hb dK_secretFromTape_17 rfl (lv_at hl 2 rfl) ?_
  refine mp_i (cx := [(h0, .inr (0, [.ref kt, .int (nI tl), .ref ka, .int (nI al), .ref kp, .int (nI pn), .ref kks, .ref kds, .ref ksp, .ref kkm, .ref kda]))]) (wr := []) hP hD hS hA [0] [] rfl rfl rfl (by decide) (va_runV (As := [.int (nI 0)]) (rest := [.int (nI 768), .int (nI 768), .ref kt]) F (t_K_publicLength_0 l g _ T  pl hO hU  h0 kt ka kp kks kds ksp kkm kda tl al pn k_kt k_ka k_kp k_kks k_kds k_ksp k_kkm k_kda (by omega)) (cwV 1 hts (wg_app (wg_c kw_566 (wg_c kw_568 (wg_c ks_2 (wg_c kw_1 wg_n)))) kw_569) rfl rfl rfl (by decide +kernel) ⟨by decide, by decide⟩) (pp_V (en_ok g) (q0 := 0) hK hP hD hS hA hE [0] rfl rfl rfl rfl) rfl rfl hl.1 rfl (lv_room (Nat.le_of_ble_eq_true rfl)) dK_secretFromTape_18 ⟨Nat.le_of_ble_eq_true rfl, Nat.le_of_ble_eq_true rfl⟩) (fun r22 pl H locs hu21 hP hD hS => ?_)
  obtain ⟨hq21, hO⟩ := hu21
  have hP : va_P g.1 vcl ([(h0, .inr (0, [.ref kt, .int (nI tl), .ref ka, .int (nI al), .ref kp, .int (nI pn), .ref kks, .ref kds, .ref ksp, .ref kkm, .ref kda]))] ++ pl) _ := hP
  have hD : va_D _ ([(h0, .inr (0, [.ref kt, .int (nI tl), .ref ka, .int (nI al), .ref kp, .int (nI pn), .ref kks, .ref kds, .ref ksp, .ref kkm, .ref kda]))] ++ pl) := hD
  obtain rfl := hq21
  refine W.widen (k := 0) (n := 0) (by omega) (by omega) ?_
  refine mi_iadd hx hb dK_secretFromTape_21 ?_
  refine mi_as (show nI (768 + 800) = nI 1568 from rfl) ?_
  refine mp_q (cx := []) (wr := [(h0, .inr (0, [.ref kt, .int (nI tl), .ref ka, .int (nI al), .ref kp, .int (nI pn), .ref kks, .ref kds, .ref ksp, .ref kkm, .ref kda]))]) hP hD hS hA [] [0] rfl rfl rfl (by decide) (va_runS (As := [.ref kt, .int (nI 768), .int (nI 1568)]) (rest := []) F (t_AR_copyOfRange l g _ T  pl hO hU  kt 16384 768 1568 k_kt (by omega) (by omega) (by omega) (by omega) (by omega)) (va_cwS 3 hts (wg_app (wg_c kw_809 (wg_c kw_810 (wg_c kw_21 wg_n))) kw_811) rfl rfl rfl (by decide +kernel) ⟨by decide, by decide⟩) (pp_S (en_ok g) hP hD hS hA hE [] rfl rfl) rfl rfl hl.1 rfl (lv_room (Nat.le_of_ble_eq_true rfl)) dK_secretFromTape_22 ⟨Nat.le_of_ble_eq_true rfl, Nat.le_of_ble_eq_true rfl⟩) (fun r23 u21 H locs hu22 hP hD hS => ?_)
  obtain ⟨T, pl⟩ := u21
  obtain ⟨hq22, hO⟩ := hu22
  have hP : va_P g.1 vcl ([(h0, .inr (0, [.ref kt, .int (nI tl), .ref ka, .int (nI al), .ref kp, .int (nI pn), .ref kks, .ref kds, .ref ksp, .ref kkm, .ref kda]))] ++ pl) _ := hP
  have hD : va_D _ ([(h0, .inr (0, [.ref kt, .int (nI tl), .ref ka, .int (nI al), .ref kp, .int (nI pn), .ref kks, .ref kds, .ref ksp, .ref kkm, .ref kda]))] ++ pl) := hD
  obtain ⟨hxt21, hU, q21, rfl, kr22⟩ := hq22
  have k_kt := hxt21 _ _ k_kt
  have k_ka := hxt21 _ _ k_ka
  have k_kp := hxt21 _ _ k_kp
  have k_kks := hxt21 _ _ k_kks
  have k_kds := hxt21 _ _ k_kds
  have k_ksp := hxt21 _ _ k_ksp
  have k_kkm := hxt21 _ _ k_kkm
  have k_kda := hxt21 _ _ k_kda
  have kr21 := hxt21 _ _ kr21
  have hXT := ext_tr hXT hxt21
  refine W.widen (k := 1) (n := 2592) (by omega) (by omega) ?_
  refine lv_astore_n (lv' := [(3, .ref q21), (2, .int (nI 768)), (0, .ref h0), (1, .int (nI 0))]) hx hb dK_secretFromTape_25 rfl hl (by decide) rfl (fun ls hl => ?_)
  refine va_new (ws := [(h0, .inr (0, [.ref kt, .int (nI tl), .ref ka, .int (nI al), .ref kp, .int (nI pn), .ref kks, .ref kds, .ref ksp, .ref kkm, .ref kda]))] ++ pl) (ci := 13) (fs := [.int 0, .null, .null]) (C := "LatticeKeys$KeyPair") (T := T_KP) (N := 3) hx hb hts (wg_ft i_KP) ty_KP k_KP hown (hts _ (wg_t kw_43)) (hts _ (wg_t kw_740)) (hts _ (wg_t kw_24)) hK hP hD hS hA rfl z_KP (Nat.le_of_ble_eq_true rfl) (Nat.le_of_ble_eq_true rfl) dK_secretFromTape_26 (fun q22 H hP hD hS => ?_)
  obtain ⟨hP, hD⟩ := mv_first hP hD
  have hP : va_P g.1 vcl ([(h0, .inr (0, [.ref kt, .int (nI tl), .ref ka, .int (nI al), .ref kp, .int (nI pn), .ref kks, .ref kds, .ref ksp, .ref kkm, .ref kda])), (q22, .inr (13, [.int 0, .null, .null]))] ++ pl) _ := hP
  have hD : va_D _ ([(h0, .inr (0, [.ref kt, .int (nI tl), .ref ka, .int (nI al), .ref kp, .int (nI pn), .ref kks, .ref kds, .ref ksp, .ref kkm, .ref kda])), (q22, .inr (13, [.int 0, .null, .null]))] ++ pl) := hD
  refine W.widen (k := 2) (n := 2595) (by omega) (by omega) ?_
  refine lv_dup hx hb dK_secretFromTape_29 rfl ?_
  refine lv_iload_n hx hb dK_secretFromTape_30 rfl (lv_at hl 3 rfl) ?_
  refine lv_aload_n hx hb dK_secretFromTape_31 rfl (lv_at hl 0 rfl) ?_
  refine lv_aload_n hx hb dK_secretFromTape_32 rfl (lv_at hl 2 rfl) ?_
  refine va_get (D := g.1) (ci := 0) (C := "LatticeKeys") (T := T_K) (N := 11) hx hb hts (wg_ft i_K) hown hK hP 0 rfl rfl 0 (by decide) (hts _ (wg_t kw_374)) (fun _ h9 => h9) rfl dK_secretFromTape_33 ?_
  refine lv_aload_n hx hb dK_secretFromTape_36 rfl (lv_at hl 2 rfl) ?_
  refine va_get (D := g.1) (ci := 0) (C := "LatticeKeys") (T := T_K) (N := 11) hx hb hts (wg_ft i_K) hown hK hP 0 rfl rfl 1 (by decide) (hts _ (wg_t kw_375)) (fun _ h9 => h9) rfl dK_secretFromTape_37 ?_
  refine mp_q (cx := []) (wr := [(h0, .inr (0, [.ref kt, .int (nI tl), .ref ka, .int (nI al), .ref kp, .int (nI pn), .ref kks, .ref kds, .ref ksp, .ref kkm, .ref kda])), (q22, .inr (13, [.int 0, .null, .null]))]) hP hD hS hA [] [0, 1] rfl rfl rfl (by decide) (va_runS (As := [.ref kt, .int (nI tl)]) (rest := [.ref q21, .int (nI 0), .ref q22, .ref q22]) F (t_AR_copyOf l g _ T  pl hO hU  kt 16384 tl k_kt (by omega) (by omega) (by omega)) (va_cwS 2 hts (wg_app (wg_c kw_1047 (wg_c kw_880 (wg_c kw_21 wg_n))) kw_881) rfl rfl rfl (by decide +kernel) ⟨by decide, by decide⟩) (pp_S (en_ok g) hP hD hS hA hE [] rfl rfl) rfl rfl hl.1 rfl (lv_room (Nat.le_of_ble_eq_true rfl)) dK_secretFromTape_40 ⟨Nat.le_of_ble_eq_true rfl, Nat.le_of_ble_eq_true rfl⟩) (fun r24 u22 H locs hu23 hP hD hS => ?_)
  obtain ⟨T, pl⟩ := u22
  obtain ⟨hq23, hO⟩ := hu23
  have hP : va_P g.1 vcl ([(h0, .inr (0, [.ref kt, .int (nI tl), .ref ka, .int (nI al), .ref kp, .int (nI pn), .ref kks, .ref kds, .ref ksp, .ref kkm, .ref kda])), (q22, .inr (13, [.int 0, .null, .null]))] ++ pl) _ := hP
  have hD : va_D _ ([(h0, .inr (0, [.ref kt, .int (nI tl), .ref ka, .int (nI al), .ref kp, .int (nI pn), .ref kks, .ref kds, .ref ksp, .ref kkm, .ref kda])), (q22, .inr (13, [.int 0, .null, .null]))] ++ pl) := hD
  obtain ⟨hxt22, hU, q23, rfl, kr23⟩ := hq23
  have k_kt := hxt22 _ _ k_kt
  have k_ka := hxt22 _ _ k_ka
  have k_kp := hxt22 _ _ k_kp
  have k_kks := hxt22 _ _ k_kks
  have k_kds := hxt22 _ _ k_kds
  have k_ksp := hxt22 _ _ k_ksp
  have k_kkm := hxt22 _ _ k_kkm
  have k_kda := hxt22 _ _ k_kda
  have kr21 := hxt22 _ _ kr21
  have kr22 := hxt22 _ _ kr22
  have hXT := ext_tr hXT hxt22
  refine W.widen (k := 3) (n := 7491) (by omega) (by omega) ?_
  refine mp_v (cx := [(q22, .inr (13, [.int 0, .null, .null]))]) (wr := [(h0, .inr (0, [.ref kt, .int (nI tl), .ref ka, .int (nI al), .ref kp, .int (nI pn), .ref kks, .ref kds, .ref ksp, .ref kkm, .ref kda]))]) hP hD hS hA [1] [0] rfl rfl rfl (by decide) (va_runI (As := [.int (nI 0), .ref q21, .ref q23]) (rest := [.ref q22]) F (t_KP_init17 l g _ T  pl hO hU  (nI 0) q22 q21 q23) (cwI 3 hts (wg_in kw_743) rfl rfl rfl (hts _ (wg_t kw_24)) (hts _ (wg_t kw_741)) (hts _ (wg_t kw_742)) rfl (by decide +kernel) ⟨by decide, by decide⟩) (pp_S (en_ok g) hP hD hS hA hE [1] rfl rfl) rfl rfl hl.1 rfl (lv_room (Nat.le_of_ble_eq_true rfl)) dK_secretFromTape_43 ⟨Nat.le_of_ble_eq_true rfl, Nat.le_of_ble_eq_true rfl⟩) (fun  pl H locs hu24 hP hD hS => ?_)
  obtain ⟨hq24, hO⟩ := hu24
  have hP : va_P g.1 vcl ([(h0, .inr (0, [.ref kt, .int (nI tl), .ref ka, .int (nI al), .ref kp, .int (nI pn), .ref kks, .ref kds, .ref ksp, .ref kkm, .ref kda])), (q22, .inr (13, [.int (nI 0), .ref q21, .ref q23]))] ++ pl) _ := hP
  have hD : va_D _ ([(h0, .inr (0, [.ref kt, .int (nI tl), .ref ka, .int (nI al), .ref kp, .int (nI pn), .ref kks, .ref kds, .ref ksp, .ref kkm, .ref kda])), (q22, .inr (13, [.int (nI 0), .ref q21, .ref q23]))] ++ pl) := hD
  refine W.widen (k := 3) (n := 7491) (by omega) (by omega) ?_
  obtain ⟨hP, hD⟩ := mv_last (X := [(h0, .inr (0, [.ref kt, .int (nI tl), .ref ka, .int (nI al), .ref kp, .int (nI pn), .ref kks, .ref kds, .ref ksp, .ref kkm, .ref kda]))]) (c := (q22, .inr (13, [.int (nI 0), .ref q21, .ref q23]))) hP hD
  obtain ⟨T, pl, hxt23, hU, kr24, hO, hP, hD, hnk21⟩ := absorb (X := [(h0, .inr (0, [.ref kt, .int (nI tl), .ref ka, .int (nI al), .ref kp, .int (nI pn), .ref kks, .ref kds, .ref ksp, .ref kkm, .ref kda]))]) (17, 0) hP hD hO hU (Or.inl rfl) (fun T9 h9 _ => ⟨_, rfl, ⟨rfl, ⟨_, rfl, (by have h8 := h9 _ _ kr22; rw [show (1568 - 768) = 800 by omega] at h8; exact h8)⟩, ⟨_, rfl, (by have h8 := h9 _ _ kr23; rw [show tl = 1632 by omega] at h8; exact h8)⟩, trivial⟩⟩)
  have k_kt := hxt23 _ _ k_kt
  have k_ka := hxt23 _ _ k_ka
  have k_kp := hxt23 _ _ k_kp
  have k_kks := hxt23 _ _ k_kks
  have k_kds := hxt23 _ _ k_kds
  have k_ksp := hxt23 _ _ k_ksp
  have k_kkm := hxt23 _ _ k_kkm
  have k_kda := hxt23 _ _ k_kda
  have kr21 := hxt23 _ _ kr21
  have kr22 := hxt23 _ _ kr22
  have kr23 := hxt23 _ _ kr23
  have hXT := ext_tr hXT hxt23
  have hP : va_P g.1 vcl ([(h0, .inr (0, [.ref kt, .int (nI tl), .ref ka, .int (nI al), .ref kp, .int (nI pn), .ref kks, .ref kds, .ref ksp, .ref kkm, .ref kda]))] ++ pl) _ := hP
  have hD : va_D _ ([(h0, .inr (0, [.ref kt, .int (nI tl), .ref ka, .int (nI al), .ref kp, .int (nI pn), .ref kks, .ref kds, .ref ksp, .ref kkm, .ref kda]))] ++ pl) := hD
  exact mp_qret (v := (some q22)) hx hb hr (Or.inl ⟨_, rfl⟩) hlk hP hD hS (T, pl) ⟨⟨hXT, hU, _, rfl, kr24⟩, hO⟩ [0] rfl rfl rfl (by omega) (by omega) dK_secretFromTape_46
set_option maxHeartbeats 4000000 in
set_option maxRecDepth 100000 in
theorem t_K_secretFromTape_1 (l : Launch) (g : Gd) (sz : Nat) (T : Ty) (pl : va_W) (hO : okx g T [] pl) (hU : uni T) (h0 kt ka kp kks kds ksp kkm kda tl al pn : Nat) (k_kt : T kt = some (1, 16384)) (k_ka : T ka = some (1, 8192)) (k_kp : T kp = some (6, 0)) (k_kks : T kks = some (50, 0)) (k_kds : T kds = some (51, 0)) (k_ksp : T ksp = some (10, 0)) (k_kkm : T kkm = some (13, 0)) (k_kda : T kda = some (15, 0)) (hb : tl ≤ 16384 ∧ al ≤ 8192 ∧ pn ≤ 8) (h1 : tl = 2400)  : Met l y_K_secretFromTape w_K_secretFromTape ({ frames := 3, cells := 3, slots := 7491, locals := 106 } : Room) (va_Pc [.ref h0, .int (nI 1)] (pr (en g) g.1 vcl sz ([(h0, .inr (0, [.ref kt, .int (nI tl), .ref ka, .int (nI al), .ref kp, .int (nI pn), .ref kks, .ref kds, .ref ksp, .ref kkm, .ref kda]))] ++ pl))) (va_Qq (fun (r : Option Nat) (u : (Ty) × va_W) => (ext T u.1 ∧ uni u.1 ∧ ∃ q, r = some q ∧ u.1 q = some (17, 1)) ∧ okx g u.1 [] u.2) (po g.1 vcl (va_A ([(h0, .inr (0, [.ref kt, .int (nI tl), .ref ka, .int (nI al), .ref kp, .int (nI pn), .ref kks, .ref kds, .ref ksp, .ref kkm, .ref kda]))] ++ pl) sz) (fun (u : (Ty) × va_W) => [(h0, .inr (0, [.ref kt, .int (nI tl), .ref ka, .int (nI al), .ref kp, .int (nI pn), .ref kks, .ref kds, .ref ksp, .ref kkm, .ref kda]))] ++ u.2)) (va_A ([(h0, .inr (0, [.ref kt, .int (nI tl), .ref ka, .int (nI al), .ref kp, .int (nI pn), .ref kks, .ref kds, .ref ksp, .ref kkm, .ref kda]))] ++ pl) sz)) 3 7491 (va_A ([(h0, .inr (0, [.ref kt, .int (nI tl), .ref ka, .int (nI al), .ref kp, .int (nI pn), .ref kks, .ref kds, .ref ksp, .ref kkm, .ref kda]))] ++ pl) sz) := by
  refine mc_entry (cc := c_K_secretFromTape) (maxL := 4) (ret := (Option.some (Jvm.ClassFile.FieldType.object "LatticeKeys$KeyPair"))) (by decide) rfl (Nat.le_of_ble_eq_true rfl) ?_
  intro p e s m args below meth c ls F hr hlk hnm hsz hP hD hE hA hl
  obtain ⟨hx, hb, hml, hown, hts⟩ := id F
  have hK := hE.1
  generalize va_A ([(h0, .inr (0, [.ref kt, .int (nI tl), .ref ka, .int (nI al), .ref kp, .int (nI pn), .ref kks, .ref kds, .ref ksp, .ref kkm, .ref kda]))] ++ pl) sz = A at hD hE hA ⊢
  have hXT : ext T T := ext_rf
  have hS : va_S A s.heap s.heap [] := va_S.rf
  have hl : lv_has ls 4 [(0, .ref h0), (1, .int (nI 1))] := hl
  refine lv_aload_n hx hb dK_secretFromTape_0 rfl (lv_at hl 0 rfl) ?_
  refine va_get (D := g.1) (ci := 0) (C := "LatticeKeys") (T := T_K) (N := 11) hx hb hts (wg_ft i_K) hown hK hP 0 rfl rfl 6 (by decide) (hts _ (wg_t kw_380)) (fun _ h9 => h9) rfl dK_secretFromTape_1 ?_
  refine lv_iload_n hx hb dK_secretFromTape_4 rfl (lv_at hl 1 rfl) ?_
  refine ty_aald50 hx hb hK hO k_kks (nxg clo_nil k_kks rfl) hP (by omega) dK_secretFromTape_5 (fun r21 kr21 => ?_)
  refine ty_get (ci := 1) (C := "LatticeKeys$KemSet") (TT := T_KS) (N := 10) (kd := (41, 0)) hx hb hts (wg_ft i_KS) hown hK hO kr21 (nxg clo_nil kr21 rfl) hP (fun _ h9 => h9) rfl 7 (by decide) (hts _ (wg_t kw_248)) (fun _ h9 => h9) (cd := (1, 0, 1152)) rfl dK_secretFromTape_6 (fun v21 hv21 => ?_)
  obtain rfl := (show v21 = .int (nI 1152) from hv21)
  refine lv_istore_n (lv' := [(2, .int (nI 1152)), (0, .ref h0), (1, .int (nI 1))]) hx hb dK_secretFromTape_9 rfl hl (by decide) rfl (fun ls hl => ?_)
  refine lv_aload_n hx hb dK_secretFromTape_10 rfl (lv_at hl 1 rfl) ?_
  refine va_get (D := g.1) (ci := 0) (C := "LatticeKeys") (T := T_K) (N := 11) hx hb hts (wg_ft i_K) hown hK hP 0 rfl rfl 0 (by decide) (hts _ (wg_t kw_374)) (fun _ h9 => h9) rfl dK_secretFromTape_11 ?_
  refine lv_iload_n hx hb dK_secretFromTape_14 rfl (lv_at hl 0 rfl) ?_
  refine lv_iload_n hx hb dK_secretFromTape_15 rfl (lv_at hl 0 rfl) ?_
  refine lv_aload_n hx hb dK_secretFromTape_16 rfl (lv_at hl 1 rfl) ?_
  refine lv_iload_n hx hb dK_secretFromTape_17 rfl (lv_at hl 2 rfl) ?_
  refine mp_i (cx := [(h0, .inr (0, [.ref kt, .int (nI tl), .ref ka, .int (nI al), .ref kp, .int (nI pn), .ref kks, .ref kds, .ref ksp, .ref kkm, .ref kda]))]) (wr := []) hP hD hS hA [0] [] rfl rfl rfl (by decide) (va_runV (As := [.int (nI 1)]) (rest := [.int (nI 1152), .int (nI 1152), .ref kt]) F (t_K_publicLength_1 l g _ T  pl hO hU  h0 kt ka kp kks kds ksp kkm kda tl al pn k_kt k_ka k_kp k_kks k_kds k_ksp k_kkm k_kda (by omega)) (cwV 1 hts (wg_app (wg_c kw_566 (wg_c kw_568 (wg_c ks_2 (wg_c kw_1 wg_n)))) kw_569) rfl rfl rfl (by decide +kernel) ⟨by decide, by decide⟩) (pp_V (en_ok g) (q0 := 0) hK hP hD hS hA hE [0] rfl rfl rfl rfl) rfl rfl hl.1 rfl (lv_room (Nat.le_of_ble_eq_true rfl)) dK_secretFromTape_18 ⟨Nat.le_of_ble_eq_true rfl, Nat.le_of_ble_eq_true rfl⟩) (fun r22 pl H locs hu21 hP hD hS => ?_)
  obtain ⟨hq21, hO⟩ := hu21
  have hP : va_P g.1 vcl ([(h0, .inr (0, [.ref kt, .int (nI tl), .ref ka, .int (nI al), .ref kp, .int (nI pn), .ref kks, .ref kds, .ref ksp, .ref kkm, .ref kda]))] ++ pl) _ := hP
  have hD : va_D _ ([(h0, .inr (0, [.ref kt, .int (nI tl), .ref ka, .int (nI al), .ref kp, .int (nI pn), .ref kks, .ref kds, .ref ksp, .ref kkm, .ref kda]))] ++ pl) := hD
  obtain rfl := hq21
  refine W.widen (k := 0) (n := 0) (by omega) (by omega) ?_
  refine mi_iadd hx hb dK_secretFromTape_21 ?_
  refine mi_as (show nI (1152 + 1184) = nI 2336 from rfl) ?_
  refine mp_q (cx := []) (wr := [(h0, .inr (0, [.ref kt, .int (nI tl), .ref ka, .int (nI al), .ref kp, .int (nI pn), .ref kks, .ref kds, .ref ksp, .ref kkm, .ref kda]))]) hP hD hS hA [] [0] rfl rfl rfl (by decide) (va_runS (As := [.ref kt, .int (nI 1152), .int (nI 2336)]) (rest := []) F (t_AR_copyOfRange l g _ T  pl hO hU  kt 16384 1152 2336 k_kt (by omega) (by omega) (by omega) (by omega) (by omega)) (va_cwS 3 hts (wg_app (wg_c kw_809 (wg_c kw_810 (wg_c kw_21 wg_n))) kw_811) rfl rfl rfl (by decide +kernel) ⟨by decide, by decide⟩) (pp_S (en_ok g) hP hD hS hA hE [] rfl rfl) rfl rfl hl.1 rfl (lv_room (Nat.le_of_ble_eq_true rfl)) dK_secretFromTape_22 ⟨Nat.le_of_ble_eq_true rfl, Nat.le_of_ble_eq_true rfl⟩) (fun r23 u21 H locs hu22 hP hD hS => ?_)
  obtain ⟨T, pl⟩ := u21
  obtain ⟨hq22, hO⟩ := hu22
  have hP : va_P g.1 vcl ([(h0, .inr (0, [.ref kt, .int (nI tl), .ref ka, .int (nI al), .ref kp, .int (nI pn), .ref kks, .ref kds, .ref ksp, .ref kkm, .ref kda]))] ++ pl) _ := hP
  have hD : va_D _ ([(h0, .inr (0, [.ref kt, .int (nI tl), .ref ka, .int (nI al), .ref kp, .int (nI pn), .ref kks, .ref kds, .ref ksp, .ref kkm, .ref kda]))] ++ pl) := hD
  obtain ⟨hxt21, hU, q21, rfl, kr22⟩ := hq22
  have k_kt := hxt21 _ _ k_kt
  have k_ka := hxt21 _ _ k_ka
  have k_kp := hxt21 _ _ k_kp
  have k_kks := hxt21 _ _ k_kks
  have k_kds := hxt21 _ _ k_kds
  have k_ksp := hxt21 _ _ k_ksp
  have k_kkm := hxt21 _ _ k_kkm
  have k_kda := hxt21 _ _ k_kda
  have kr21 := hxt21 _ _ kr21
  have hXT := ext_tr hXT hxt21
  refine W.widen (k := 1) (n := 2592) (by omega) (by omega) ?_
  refine lv_astore_n (lv' := [(3, .ref q21), (2, .int (nI 1152)), (0, .ref h0), (1, .int (nI 1))]) hx hb dK_secretFromTape_25 rfl hl (by decide) rfl (fun ls hl => ?_)
  refine va_new (ws := [(h0, .inr (0, [.ref kt, .int (nI tl), .ref ka, .int (nI al), .ref kp, .int (nI pn), .ref kks, .ref kds, .ref ksp, .ref kkm, .ref kda]))] ++ pl) (ci := 13) (fs := [.int 0, .null, .null]) (C := "LatticeKeys$KeyPair") (T := T_KP) (N := 3) hx hb hts (wg_ft i_KP) ty_KP k_KP hown (hts _ (wg_t kw_43)) (hts _ (wg_t kw_740)) (hts _ (wg_t kw_24)) hK hP hD hS hA rfl z_KP (Nat.le_of_ble_eq_true rfl) (Nat.le_of_ble_eq_true rfl) dK_secretFromTape_26 (fun q22 H hP hD hS => ?_)
  obtain ⟨hP, hD⟩ := mv_first hP hD
  have hP : va_P g.1 vcl ([(h0, .inr (0, [.ref kt, .int (nI tl), .ref ka, .int (nI al), .ref kp, .int (nI pn), .ref kks, .ref kds, .ref ksp, .ref kkm, .ref kda])), (q22, .inr (13, [.int 0, .null, .null]))] ++ pl) _ := hP
  have hD : va_D _ ([(h0, .inr (0, [.ref kt, .int (nI tl), .ref ka, .int (nI al), .ref kp, .int (nI pn), .ref kks, .ref kds, .ref ksp, .ref kkm, .ref kda])), (q22, .inr (13, [.int 0, .null, .null]))] ++ pl) := hD
  refine W.widen (k := 2) (n := 2595) (by omega) (by omega) ?_
  refine lv_dup hx hb dK_secretFromTape_29 rfl ?_
  refine lv_iload_n hx hb dK_secretFromTape_30 rfl (lv_at hl 3 rfl) ?_
  refine lv_aload_n hx hb dK_secretFromTape_31 rfl (lv_at hl 0 rfl) ?_
  refine lv_aload_n hx hb dK_secretFromTape_32 rfl (lv_at hl 2 rfl) ?_
  refine va_get (D := g.1) (ci := 0) (C := "LatticeKeys") (T := T_K) (N := 11) hx hb hts (wg_ft i_K) hown hK hP 0 rfl rfl 0 (by decide) (hts _ (wg_t kw_374)) (fun _ h9 => h9) rfl dK_secretFromTape_33 ?_
  refine lv_aload_n hx hb dK_secretFromTape_36 rfl (lv_at hl 2 rfl) ?_
  refine va_get (D := g.1) (ci := 0) (C := "LatticeKeys") (T := T_K) (N := 11) hx hb hts (wg_ft i_K) hown hK hP 0 rfl rfl 1 (by decide) (hts _ (wg_t kw_375)) (fun _ h9 => h9) rfl dK_secretFromTape_37 ?_
  refine mp_q (cx := []) (wr := [(h0, .inr (0, [.ref kt, .int (nI tl), .ref ka, .int (nI al), .ref kp, .int (nI pn), .ref kks, .ref kds, .ref ksp, .ref kkm, .ref kda])), (q22, .inr (13, [.int 0, .null, .null]))]) hP hD hS hA [] [0, 1] rfl rfl rfl (by decide) (va_runS (As := [.ref kt, .int (nI tl)]) (rest := [.ref q21, .int (nI 1), .ref q22, .ref q22]) F (t_AR_copyOf l g _ T  pl hO hU  kt 16384 tl k_kt (by omega) (by omega) (by omega)) (va_cwS 2 hts (wg_app (wg_c kw_1047 (wg_c kw_880 (wg_c kw_21 wg_n))) kw_881) rfl rfl rfl (by decide +kernel) ⟨by decide, by decide⟩) (pp_S (en_ok g) hP hD hS hA hE [] rfl rfl) rfl rfl hl.1 rfl (lv_room (Nat.le_of_ble_eq_true rfl)) dK_secretFromTape_40 ⟨Nat.le_of_ble_eq_true rfl, Nat.le_of_ble_eq_true rfl⟩) (fun r24 u22 H locs hu23 hP hD hS => ?_)
  obtain ⟨T, pl⟩ := u22
  obtain ⟨hq23, hO⟩ := hu23
  have hP : va_P g.1 vcl ([(h0, .inr (0, [.ref kt, .int (nI tl), .ref ka, .int (nI al), .ref kp, .int (nI pn), .ref kks, .ref kds, .ref ksp, .ref kkm, .ref kda])), (q22, .inr (13, [.int 0, .null, .null]))] ++ pl) _ := hP
  have hD : va_D _ ([(h0, .inr (0, [.ref kt, .int (nI tl), .ref ka, .int (nI al), .ref kp, .int (nI pn), .ref kks, .ref kds, .ref ksp, .ref kkm, .ref kda])), (q22, .inr (13, [.int 0, .null, .null]))] ++ pl) := hD
  obtain ⟨hxt22, hU, q23, rfl, kr23⟩ := hq23
  have k_kt := hxt22 _ _ k_kt
  have k_ka := hxt22 _ _ k_ka
  have k_kp := hxt22 _ _ k_kp
  have k_kks := hxt22 _ _ k_kks
  have k_kds := hxt22 _ _ k_kds
  have k_ksp := hxt22 _ _ k_ksp
  have k_kkm := hxt22 _ _ k_kkm
  have k_kda := hxt22 _ _ k_kda
  have kr21 := hxt22 _ _ kr21
  have kr22 := hxt22 _ _ kr22
  have hXT := ext_tr hXT hxt22
  refine W.widen (k := 3) (n := 7491) (by omega) (by omega) ?_
  refine mp_v (cx := [(q22, .inr (13, [.int 0, .null, .null]))]) (wr := [(h0, .inr (0, [.ref kt, .int (nI tl), .ref ka, .int (nI al), .ref kp, .int (nI pn), .ref kks, .ref kds, .ref ksp, .ref kkm, .ref kda]))]) hP hD hS hA [1] [0] rfl rfl rfl (by decide) (va_runI (As := [.int (nI 1), .ref q21, .ref q23]) (rest := [.ref q22]) F (t_KP_init17 l g _ T  pl hO hU  (nI 1) q22 q21 q23) (cwI 3 hts (wg_in kw_743) rfl rfl rfl (hts _ (wg_t kw_24)) (hts _ (wg_t kw_741)) (hts _ (wg_t kw_742)) rfl (by decide +kernel) ⟨by decide, by decide⟩) (pp_S (en_ok g) hP hD hS hA hE [1] rfl rfl) rfl rfl hl.1 rfl (lv_room (Nat.le_of_ble_eq_true rfl)) dK_secretFromTape_43 ⟨Nat.le_of_ble_eq_true rfl, Nat.le_of_ble_eq_true rfl⟩) (fun  pl H locs hu24 hP hD hS => ?_)
  obtain ⟨hq24, hO⟩ := hu24
  have hP : va_P g.1 vcl ([(h0, .inr (0, [.ref kt, .int (nI tl), .ref ka, .int (nI al), .ref kp, .int (nI pn), .ref kks, .ref kds, .ref ksp, .ref kkm, .ref kda])), (q22, .inr (13, [.int (nI 1), .ref q21, .ref q23]))] ++ pl) _ := hP
  have hD : va_D _ ([(h0, .inr (0, [.ref kt, .int (nI tl), .ref ka, .int (nI al), .ref kp, .int (nI pn), .ref kks, .ref kds, .ref ksp, .ref kkm, .ref kda])), (q22, .inr (13, [.int (nI 1), .ref q21, .ref q23]))] ++ pl) := hD
  refine W.widen (k := 3) (n := 7491) (by omega) (by omega) ?_
  obtain ⟨hP, hD⟩ := mv_last (X := [(h0, .inr (0, [.ref kt, .int (nI tl), .ref ka, .int (nI al), .ref kp, .int (nI pn), .ref kks, .ref kds, .ref ksp, .ref kkm, .ref kda]))]) (c := (q22, .inr (13, [.int (nI 1), .ref q21, .ref q23]))) hP hD
  obtain ⟨T, pl, hxt23, hU, kr24, hO, hP, hD, hnk21⟩ := absorb (X := [(h0, .inr (0, [.ref kt, .int (nI tl), .ref ka, .int (nI al), .ref kp, .int (nI pn), .ref kks, .ref kds, .ref ksp, .ref kkm, .ref kda]))]) (17, 1) hP hD hO hU (Or.inl rfl) (fun T9 h9 _ => ⟨_, rfl, ⟨rfl, ⟨_, rfl, (by have h8 := h9 _ _ kr22; rw [show (2336 - 1152) = 1184 by omega] at h8; exact h8)⟩, ⟨_, rfl, (by have h8 := h9 _ _ kr23; rw [show tl = 2400 by omega] at h8; exact h8)⟩, trivial⟩⟩)
  have k_kt := hxt23 _ _ k_kt
  have k_ka := hxt23 _ _ k_ka
  have k_kp := hxt23 _ _ k_kp
  have k_kks := hxt23 _ _ k_kks
  have k_kds := hxt23 _ _ k_kds
  have k_ksp := hxt23 _ _ k_ksp
  have k_kkm := hxt23 _ _ k_kkm
  have k_kda := hxt23 _ _ k_kda
  have kr21 := hxt23 _ _ kr21
  have kr22 := hxt23 _ _ kr22
  have kr23 := hxt23 _ _ kr23
  have hXT := ext_tr hXT hxt23
  have hP : va_P g.1 vcl ([(h0, .inr (0, [.ref kt, .int (nI tl), .ref ka, .int (nI al), .ref kp, .int (nI pn), .ref kks, .ref kds, .ref ksp, .ref kkm, .ref kda]))] ++ pl) _ := hP
  have hD : va_D _ ([(h0, .inr (0, [.ref kt, .int (nI tl), .ref ka, .int (nI al), .ref kp, .int (nI pn), .ref kks, .ref kds, .ref ksp, .ref kkm, .ref kda]))] ++ pl) := hD
  exact mp_qret (v := (some q22)) hx hb hr (Or.inl ⟨_, rfl⟩) hlk hP hD hS (T, pl) ⟨⟨hXT, hU, _, rfl, kr24⟩, hO⟩ [0] rfl rfl rfl (by omega) (by omega) dK_secretFromTape_46
set_option maxHeartbeats 4000000 in
set_option maxRecDepth 100000 in
theorem t_K_secretFromTape_2 (l : Launch) (g : Gd) (sz : Nat) (T : Ty) (pl : va_W) (hO : okx g T [] pl) (hU : uni T) (h0 kt ka kp kks kds ksp kkm kda tl al pn : Nat) (k_kt : T kt = some (1, 16384)) (k_ka : T ka = some (1, 8192)) (k_kp : T kp = some (6, 0)) (k_kks : T kks = some (50, 0)) (k_kds : T kds = some (51, 0)) (k_ksp : T ksp = some (10, 0)) (k_kkm : T kkm = some (13, 0)) (k_kda : T kda = some (15, 0)) (hb : tl ≤ 16384 ∧ al ≤ 8192 ∧ pn ≤ 8) (h1 : tl = 3168)  : Met l y_K_secretFromTape w_K_secretFromTape ({ frames := 3, cells := 3, slots := 7491, locals := 106 } : Room) (va_Pc [.ref h0, .int (nI 2)] (pr (en g) g.1 vcl sz ([(h0, .inr (0, [.ref kt, .int (nI tl), .ref ka, .int (nI al), .ref kp, .int (nI pn), .ref kks, .ref kds, .ref ksp, .ref kkm, .ref kda]))] ++ pl))) (va_Qq (fun (r : Option Nat) (u : (Ty) × va_W) => (ext T u.1 ∧ uni u.1 ∧ ∃ q, r = some q ∧ u.1 q = some (17, 2)) ∧ okx g u.1 [] u.2) (po g.1 vcl (va_A ([(h0, .inr (0, [.ref kt, .int (nI tl), .ref ka, .int (nI al), .ref kp, .int (nI pn), .ref kks, .ref kds, .ref ksp, .ref kkm, .ref kda]))] ++ pl) sz) (fun (u : (Ty) × va_W) => [(h0, .inr (0, [.ref kt, .int (nI tl), .ref ka, .int (nI al), .ref kp, .int (nI pn), .ref kks, .ref kds, .ref ksp, .ref kkm, .ref kda]))] ++ u.2)) (va_A ([(h0, .inr (0, [.ref kt, .int (nI tl), .ref ka, .int (nI al), .ref kp, .int (nI pn), .ref kks, .ref kds, .ref ksp, .ref kkm, .ref kda]))] ++ pl) sz)) 3 7491 (va_A ([(h0, .inr (0, [.ref kt, .int (nI tl), .ref ka, .int (nI al), .ref kp, .int (nI pn), .ref kks, .ref kds, .ref ksp, .ref kkm, .ref kda]))] ++ pl) sz) := by
  refine mc_entry (cc := c_K_secretFromTape) (maxL := 4) (ret := (Option.some (Jvm.ClassFile.FieldType.object "LatticeKeys$KeyPair"))) (by decide) rfl (Nat.le_of_ble_eq_true rfl) ?_
  intro p e s m args below meth c ls F hr hlk hnm hsz hP hD hE hA hl
  obtain ⟨hx, hb, hml, hown, hts⟩ := id F
  have hK := hE.1
  generalize va_A ([(h0, .inr (0, [.ref kt, .int (nI tl), .ref ka, .int (nI al), .ref kp, .int (nI pn), .ref kks, .ref kds, .ref ksp, .ref kkm, .ref kda]))] ++ pl) sz = A at hD hE hA ⊢
  have hXT : ext T T := ext_rf
  have hS : va_S A s.heap s.heap [] := va_S.rf
  have hl : lv_has ls 4 [(0, .ref h0), (1, .int (nI 2))] := hl
  refine lv_aload_n hx hb dK_secretFromTape_0 rfl (lv_at hl 0 rfl) ?_
  refine va_get (D := g.1) (ci := 0) (C := "LatticeKeys") (T := T_K) (N := 11) hx hb hts (wg_ft i_K) hown hK hP 0 rfl rfl 6 (by decide) (hts _ (wg_t kw_380)) (fun _ h9 => h9) rfl dK_secretFromTape_1 ?_
  refine lv_iload_n hx hb dK_secretFromTape_4 rfl (lv_at hl 1 rfl) ?_
  refine ty_aald50 hx hb hK hO k_kks (nxg clo_nil k_kks rfl) hP (by omega) dK_secretFromTape_5 (fun r21 kr21 => ?_)
  refine ty_get (ci := 1) (C := "LatticeKeys$KemSet") (TT := T_KS) (N := 10) (kd := (42, 0)) hx hb hts (wg_ft i_KS) hown hK hO kr21 (nxg clo_nil kr21 rfl) hP (fun _ h9 => h9) rfl 7 (by decide) (hts _ (wg_t kw_248)) (fun _ h9 => h9) (cd := (1, 0, 1536)) rfl dK_secretFromTape_6 (fun v21 hv21 => ?_)
  obtain rfl := (show v21 = .int (nI 1536) from hv21)
  refine lv_istore_n (lv' := [(2, .int (nI 1536)), (0, .ref h0), (1, .int (nI 2))]) hx hb dK_secretFromTape_9 rfl hl (by decide) rfl (fun ls hl => ?_)
  refine lv_aload_n hx hb dK_secretFromTape_10 rfl (lv_at hl 1 rfl) ?_
  refine va_get (D := g.1) (ci := 0) (C := "LatticeKeys") (T := T_K) (N := 11) hx hb hts (wg_ft i_K) hown hK hP 0 rfl rfl 0 (by decide) (hts _ (wg_t kw_374)) (fun _ h9 => h9) rfl dK_secretFromTape_11 ?_
  refine lv_iload_n hx hb dK_secretFromTape_14 rfl (lv_at hl 0 rfl) ?_
  refine lv_iload_n hx hb dK_secretFromTape_15 rfl (lv_at hl 0 rfl) ?_
  refine lv_aload_n hx hb dK_secretFromTape_16 rfl (lv_at hl 1 rfl) ?_
  refine lv_iload_n hx hb dK_secretFromTape_17 rfl (lv_at hl 2 rfl) ?_
  refine mp_i (cx := [(h0, .inr (0, [.ref kt, .int (nI tl), .ref ka, .int (nI al), .ref kp, .int (nI pn), .ref kks, .ref kds, .ref ksp, .ref kkm, .ref kda]))]) (wr := []) hP hD hS hA [0] [] rfl rfl rfl (by decide) (va_runV (As := [.int (nI 2)]) (rest := [.int (nI 1536), .int (nI 1536), .ref kt]) F (t_K_publicLength_2 l g _ T  pl hO hU  h0 kt ka kp kks kds ksp kkm kda tl al pn k_kt k_ka k_kp k_kks k_kds k_ksp k_kkm k_kda (by omega)) (cwV 1 hts (wg_app (wg_c kw_566 (wg_c kw_568 (wg_c ks_2 (wg_c kw_1 wg_n)))) kw_569) rfl rfl rfl (by decide +kernel) ⟨by decide, by decide⟩) (pp_V (en_ok g) (q0 := 0) hK hP hD hS hA hE [0] rfl rfl rfl rfl) rfl rfl hl.1 rfl (lv_room (Nat.le_of_ble_eq_true rfl)) dK_secretFromTape_18 ⟨Nat.le_of_ble_eq_true rfl, Nat.le_of_ble_eq_true rfl⟩) (fun r22 pl H locs hu21 hP hD hS => ?_)
  obtain ⟨hq21, hO⟩ := hu21
  have hP : va_P g.1 vcl ([(h0, .inr (0, [.ref kt, .int (nI tl), .ref ka, .int (nI al), .ref kp, .int (nI pn), .ref kks, .ref kds, .ref ksp, .ref kkm, .ref kda]))] ++ pl) _ := hP
  have hD : va_D _ ([(h0, .inr (0, [.ref kt, .int (nI tl), .ref ka, .int (nI al), .ref kp, .int (nI pn), .ref kks, .ref kds, .ref ksp, .ref kkm, .ref kda]))] ++ pl) := hD
  obtain rfl := hq21
  refine W.widen (k := 0) (n := 0) (by omega) (by omega) ?_
  refine mi_iadd hx hb dK_secretFromTape_21 ?_
  refine mi_as (show nI (1536 + 1568) = nI 3104 from rfl) ?_
  refine mp_q (cx := []) (wr := [(h0, .inr (0, [.ref kt, .int (nI tl), .ref ka, .int (nI al), .ref kp, .int (nI pn), .ref kks, .ref kds, .ref ksp, .ref kkm, .ref kda]))]) hP hD hS hA [] [0] rfl rfl rfl (by decide) (va_runS (As := [.ref kt, .int (nI 1536), .int (nI 3104)]) (rest := []) F (t_AR_copyOfRange l g _ T  pl hO hU  kt 16384 1536 3104 k_kt (by omega) (by omega) (by omega) (by omega) (by omega)) (va_cwS 3 hts (wg_app (wg_c kw_809 (wg_c kw_810 (wg_c kw_21 wg_n))) kw_811) rfl rfl rfl (by decide +kernel) ⟨by decide, by decide⟩) (pp_S (en_ok g) hP hD hS hA hE [] rfl rfl) rfl rfl hl.1 rfl (lv_room (Nat.le_of_ble_eq_true rfl)) dK_secretFromTape_22 ⟨Nat.le_of_ble_eq_true rfl, Nat.le_of_ble_eq_true rfl⟩) (fun r23 u21 H locs hu22 hP hD hS => ?_)
  obtain ⟨T, pl⟩ := u21
  obtain ⟨hq22, hO⟩ := hu22
  have hP : va_P g.1 vcl ([(h0, .inr (0, [.ref kt, .int (nI tl), .ref ka, .int (nI al), .ref kp, .int (nI pn), .ref kks, .ref kds, .ref ksp, .ref kkm, .ref kda]))] ++ pl) _ := hP
  have hD : va_D _ ([(h0, .inr (0, [.ref kt, .int (nI tl), .ref ka, .int (nI al), .ref kp, .int (nI pn), .ref kks, .ref kds, .ref ksp, .ref kkm, .ref kda]))] ++ pl) := hD
  obtain ⟨hxt21, hU, q21, rfl, kr22⟩ := hq22
  have k_kt := hxt21 _ _ k_kt
  have k_ka := hxt21 _ _ k_ka
  have k_kp := hxt21 _ _ k_kp
  have k_kks := hxt21 _ _ k_kks
  have k_kds := hxt21 _ _ k_kds
  have k_ksp := hxt21 _ _ k_ksp
  have k_kkm := hxt21 _ _ k_kkm
  have k_kda := hxt21 _ _ k_kda
  have kr21 := hxt21 _ _ kr21
  have hXT := ext_tr hXT hxt21
  refine W.widen (k := 1) (n := 2592) (by omega) (by omega) ?_
  refine lv_astore_n (lv' := [(3, .ref q21), (2, .int (nI 1536)), (0, .ref h0), (1, .int (nI 2))]) hx hb dK_secretFromTape_25 rfl hl (by decide) rfl (fun ls hl => ?_)
  refine va_new (ws := [(h0, .inr (0, [.ref kt, .int (nI tl), .ref ka, .int (nI al), .ref kp, .int (nI pn), .ref kks, .ref kds, .ref ksp, .ref kkm, .ref kda]))] ++ pl) (ci := 13) (fs := [.int 0, .null, .null]) (C := "LatticeKeys$KeyPair") (T := T_KP) (N := 3) hx hb hts (wg_ft i_KP) ty_KP k_KP hown (hts _ (wg_t kw_43)) (hts _ (wg_t kw_740)) (hts _ (wg_t kw_24)) hK hP hD hS hA rfl z_KP (Nat.le_of_ble_eq_true rfl) (Nat.le_of_ble_eq_true rfl) dK_secretFromTape_26 (fun q22 H hP hD hS => ?_)
  obtain ⟨hP, hD⟩ := mv_first hP hD
  have hP : va_P g.1 vcl ([(h0, .inr (0, [.ref kt, .int (nI tl), .ref ka, .int (nI al), .ref kp, .int (nI pn), .ref kks, .ref kds, .ref ksp, .ref kkm, .ref kda])), (q22, .inr (13, [.int 0, .null, .null]))] ++ pl) _ := hP
  have hD : va_D _ ([(h0, .inr (0, [.ref kt, .int (nI tl), .ref ka, .int (nI al), .ref kp, .int (nI pn), .ref kks, .ref kds, .ref ksp, .ref kkm, .ref kda])), (q22, .inr (13, [.int 0, .null, .null]))] ++ pl) := hD
  refine W.widen (k := 2) (n := 2595) (by omega) (by omega) ?_
  refine lv_dup hx hb dK_secretFromTape_29 rfl ?_
  refine lv_iload_n hx hb dK_secretFromTape_30 rfl (lv_at hl 3 rfl) ?_
  refine lv_aload_n hx hb dK_secretFromTape_31 rfl (lv_at hl 0 rfl) ?_
  refine lv_aload_n hx hb dK_secretFromTape_32 rfl (lv_at hl 2 rfl) ?_
  refine va_get (D := g.1) (ci := 0) (C := "LatticeKeys") (T := T_K) (N := 11) hx hb hts (wg_ft i_K) hown hK hP 0 rfl rfl 0 (by decide) (hts _ (wg_t kw_374)) (fun _ h9 => h9) rfl dK_secretFromTape_33 ?_
  refine lv_aload_n hx hb dK_secretFromTape_36 rfl (lv_at hl 2 rfl) ?_
  refine va_get (D := g.1) (ci := 0) (C := "LatticeKeys") (T := T_K) (N := 11) hx hb hts (wg_ft i_K) hown hK hP 0 rfl rfl 1 (by decide) (hts _ (wg_t kw_375)) (fun _ h9 => h9) rfl dK_secretFromTape_37 ?_
  refine mp_q (cx := []) (wr := [(h0, .inr (0, [.ref kt, .int (nI tl), .ref ka, .int (nI al), .ref kp, .int (nI pn), .ref kks, .ref kds, .ref ksp, .ref kkm, .ref kda])), (q22, .inr (13, [.int 0, .null, .null]))]) hP hD hS hA [] [0, 1] rfl rfl rfl (by decide) (va_runS (As := [.ref kt, .int (nI tl)]) (rest := [.ref q21, .int (nI 2), .ref q22, .ref q22]) F (t_AR_copyOf l g _ T  pl hO hU  kt 16384 tl k_kt (by omega) (by omega) (by omega)) (va_cwS 2 hts (wg_app (wg_c kw_1047 (wg_c kw_880 (wg_c kw_21 wg_n))) kw_881) rfl rfl rfl (by decide +kernel) ⟨by decide, by decide⟩) (pp_S (en_ok g) hP hD hS hA hE [] rfl rfl) rfl rfl hl.1 rfl (lv_room (Nat.le_of_ble_eq_true rfl)) dK_secretFromTape_40 ⟨Nat.le_of_ble_eq_true rfl, Nat.le_of_ble_eq_true rfl⟩) (fun r24 u22 H locs hu23 hP hD hS => ?_)
  obtain ⟨T, pl⟩ := u22
  obtain ⟨hq23, hO⟩ := hu23
  have hP : va_P g.1 vcl ([(h0, .inr (0, [.ref kt, .int (nI tl), .ref ka, .int (nI al), .ref kp, .int (nI pn), .ref kks, .ref kds, .ref ksp, .ref kkm, .ref kda])), (q22, .inr (13, [.int 0, .null, .null]))] ++ pl) _ := hP
  have hD : va_D _ ([(h0, .inr (0, [.ref kt, .int (nI tl), .ref ka, .int (nI al), .ref kp, .int (nI pn), .ref kks, .ref kds, .ref ksp, .ref kkm, .ref kda])), (q22, .inr (13, [.int 0, .null, .null]))] ++ pl) := hD
  obtain ⟨hxt22, hU, q23, rfl, kr23⟩ := hq23
  have k_kt := hxt22 _ _ k_kt
  have k_ka := hxt22 _ _ k_ka
  have k_kp := hxt22 _ _ k_kp
  have k_kks := hxt22 _ _ k_kks
  have k_kds := hxt22 _ _ k_kds
  have k_ksp := hxt22 _ _ k_ksp
  have k_kkm := hxt22 _ _ k_kkm
  have k_kda := hxt22 _ _ k_kda
  have kr21 := hxt22 _ _ kr21
  have kr22 := hxt22 _ _ kr22
  have hXT := ext_tr hXT hxt22
  refine W.widen (k := 3) (n := 7491) (by omega) (by omega) ?_
  refine mp_v (cx := [(q22, .inr (13, [.int 0, .null, .null]))]) (wr := [(h0, .inr (0, [.ref kt, .int (nI tl), .ref ka, .int (nI al), .ref kp, .int (nI pn), .ref kks, .ref kds, .ref ksp, .ref kkm, .ref kda]))]) hP hD hS hA [1] [0] rfl rfl rfl (by decide) (va_runI (As := [.int (nI 2), .ref q21, .ref q23]) (rest := [.ref q22]) F (t_KP_init17 l g _ T  pl hO hU  (nI 2) q22 q21 q23) (cwI 3 hts (wg_in kw_743) rfl rfl rfl (hts _ (wg_t kw_24)) (hts _ (wg_t kw_741)) (hts _ (wg_t kw_742)) rfl (by decide +kernel) ⟨by decide, by decide⟩) (pp_S (en_ok g) hP hD hS hA hE [1] rfl rfl) rfl rfl hl.1 rfl (lv_room (Nat.le_of_ble_eq_true rfl)) dK_secretFromTape_43 ⟨Nat.le_of_ble_eq_true rfl, Nat.le_of_ble_eq_true rfl⟩) (fun  pl H locs hu24 hP hD hS => ?_)
  obtain ⟨hq24, hO⟩ := hu24
  have hP : va_P g.1 vcl ([(h0, .inr (0, [.ref kt, .int (nI tl), .ref ka, .int (nI al), .ref kp, .int (nI pn), .ref kks, .ref kds, .ref ksp, .ref kkm, .ref kda])), (q22, .inr (13, [.int (nI 2), .ref q21, .ref q23]))] ++ pl) _ := hP
  have hD : va_D _ ([(h0, .inr (0, [.ref kt, .int (nI tl), .ref ka, .int (nI al), .ref kp, .int (nI pn), .ref kks, .ref kds, .ref ksp, .ref kkm, .ref kda])), (q22, .inr (13, [.int (nI 2), .ref q21, .ref q23]))] ++ pl) := hD
  refine W.widen (k := 3) (n := 7491) (by omega) (by omega) ?_
  obtain ⟨hP, hD⟩ := mv_last (X := [(h0, .inr (0, [.ref kt, .int (nI tl), .ref ka, .int (nI al), .ref kp, .int (nI pn), .ref kks, .ref kds, .ref ksp, .ref kkm, .ref kda]))]) (c := (q22, .inr (13, [.int (nI 2), .ref q21, .ref q23]))) hP hD
  obtain ⟨T, pl, hxt23, hU, kr24, hO, hP, hD, hnk21⟩ := absorb (X := [(h0, .inr (0, [.ref kt, .int (nI tl), .ref ka, .int (nI al), .ref kp, .int (nI pn), .ref kks, .ref kds, .ref ksp, .ref kkm, .ref kda]))]) (17, 2) hP hD hO hU (Or.inl rfl) (fun T9 h9 _ => ⟨_, rfl, ⟨rfl, ⟨_, rfl, (by have h8 := h9 _ _ kr22; rw [show (3104 - 1536) = 1568 by omega] at h8; exact h8)⟩, ⟨_, rfl, (by have h8 := h9 _ _ kr23; rw [show tl = 3168 by omega] at h8; exact h8)⟩, trivial⟩⟩)
  have k_kt := hxt23 _ _ k_kt
  have k_ka := hxt23 _ _ k_ka
  have k_kp := hxt23 _ _ k_kp
  have k_kks := hxt23 _ _ k_kks
  have k_kds := hxt23 _ _ k_kds
  have k_ksp := hxt23 _ _ k_ksp
  have k_kkm := hxt23 _ _ k_kkm
  have k_kda := hxt23 _ _ k_kda
  have kr21 := hxt23 _ _ kr21
  have kr22 := hxt23 _ _ kr22
  have kr23 := hxt23 _ _ kr23
  have hXT := ext_tr hXT hxt23
  have hP : va_P g.1 vcl ([(h0, .inr (0, [.ref kt, .int (nI tl), .ref ka, .int (nI al), .ref kp, .int (nI pn), .ref kks, .ref kds, .ref ksp, .ref kkm, .ref kda]))] ++ pl) _ := hP
  have hD : va_D _ ([(h0, .inr (0, [.ref kt, .int (nI tl), .ref ka, .int (nI al), .ref kp, .int (nI pn), .ref kks, .ref kds, .ref ksp, .ref kkm, .ref kda]))] ++ pl) := hD
  exact mp_qret (v := (some q22)) hx hb hr (Or.inl ⟨_, rfl⟩) hlk hP hD hS (T, pl) ⟨⟨hXT, hU, _, rfl, kr24⟩, hO⟩ [0] rfl rfl rfl (by omega) (by omega) dK_secretFromTape_46
