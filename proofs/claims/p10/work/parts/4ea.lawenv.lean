set_option linter.all false
theorem lwr_1 (i : Nat) {w : Cond} (h : tables_1_1[i]? = some w) : w ∈ lw_tbl := List.mem_append_right _ (List.mem_append_left _ (List.mem_of_getElem? h))
theorem lwr_2 (i : Nat) {w : Cond} (h : tables_1_2[i]? = some w) : w ∈ lw_tbl := List.mem_append_right _ (List.mem_append_right _ (List.mem_append_left _ (List.mem_of_getElem? h)))
theorem lwr_3 (i : Nat) {w : Cond} (h : tables_1_3[i]? = some w) : w ∈ lw_tbl := List.mem_append_right _ (List.mem_append_right _ (List.mem_append_right _ (List.mem_append_left _ (List.mem_of_getElem? h))))
theorem lwr_4 (i : Nat) {w : Cond} (h : tables_1_4[i]? = some w) : w ∈ lw_tbl := List.mem_append_right _ (List.mem_append_right _ (List.mem_append_right _ (List.mem_append_right _ (List.mem_append_left _ (List.mem_of_getElem? h)))))
theorem lwr_5 (i : Nat) {w : Cond} (h : tables_1_5[i]? = some w) : w ∈ lw_tbl := List.mem_append_right _ (List.mem_append_right _ (List.mem_append_right _ (List.mem_append_right _ (List.mem_append_right _ (List.mem_append_left _ (List.mem_of_getElem? h))))))
theorem lwr_6 (i : Nat) {w : Cond} (h : tables_1_6[i]? = some w) : w ∈ lw_tbl := List.mem_append_right _ (List.mem_append_right _ (List.mem_append_right _ (List.mem_append_right _ (List.mem_append_right _ (List.mem_append_right _ (List.mem_append_left _ (List.mem_of_getElem? h)))))))
theorem lwr_7 (i : Nat) {w : Cond} (h : tables_1_7[i]? = some w) : w ∈ lw_tbl := List.mem_append_right _ (List.mem_append_right _ (List.mem_append_right _ (List.mem_append_right _ (List.mem_append_right _ (List.mem_append_right _ (List.mem_append_right _ (List.mem_append_left _ (List.mem_of_getElem? h))))))))
theorem lwr_8 (i : Nat) {w : Cond} (h : tables_1_8[i]? = some w) : w ∈ lw_tbl := List.mem_append_right _ (List.mem_append_right _ (List.mem_append_right _ (List.mem_append_right _ (List.mem_append_right _ (List.mem_append_right _ (List.mem_append_right _ (List.mem_append_right _ (List.mem_append_left _ (List.mem_of_getElem? h)))))))))
theorem lwr_9 (i : Nat) {w : Cond} (h : tables_1_9[i]? = some w) : w ∈ lw_tbl := List.mem_append_right _ (List.mem_append_right _ (List.mem_append_right _ (List.mem_append_right _ (List.mem_append_right _ (List.mem_append_right _ (List.mem_append_right _ (List.mem_append_right _ (List.mem_append_right _ (List.mem_of_getElem? h)))))))))
set_option maxRecDepth 100000 in
theorem lt_36 : (Jvm.Cond.instantiable "LatticeKeys" (11 : Nat)) ∈ lw_tbl := lwr_1 36 (by rfl)
set_option maxRecDepth 100000 in
theorem lt_217 : (Jvm.Cond.instantiable "LatticeKeys$KemSet" (10 : Nat)) ∈ lw_tbl := lwr_1 217 (by rfl)
set_option maxRecDepth 100000 in
theorem lt_274 : (Jvm.Cond.instantiable "LatticeKeys$DsaSet" (17 : Nat)) ∈ lw_tbl := lwr_2 34 (by rfl)
set_option maxRecDepth 100000 in
theorem lt_50 : (Jvm.Cond.instantiable "LatticeKeys$Sponge" (4 : Nat)) ∈ lw_tbl := lwr_1 50 (by rfl)
set_option maxRecDepth 100000 in
theorem lt_83 : (Jvm.Cond.instantiable "LatticeKeys$Ring" (4 : Nat)) ∈ lw_tbl := lwr_1 83 (by rfl)
set_option maxRecDepth 100000 in
theorem lt_75 : (Jvm.Cond.instantiable "LatticeKeys$Kem" (10 : Nat)) ∈ lw_tbl := lwr_1 75 (by rfl)
set_option maxRecDepth 100000 in
theorem lt_139 : (Jvm.Cond.instantiable "LatticeKeys$Dsa" (17 : Nat)) ∈ lw_tbl := lwr_1 139 (by rfl)
set_option maxRecDepth 100000 in
theorem lt_150 : (Jvm.Cond.instantiable "LatticeKeys$DsaSampler" (2 : Nat)) ∈ lw_tbl := lwr_1 150 (by rfl)
set_option maxRecDepth 100000 in
theorem lt_1312 : (Jvm.Cond.instantiable "LatticeKeysModel" (14 : Nat)) ∈ lw_tbl := lwr_6 112 (by rfl)
set_option maxRecDepth 100000 in
theorem lt_1320 : (Jvm.Cond.instantiable "LatticeKeysModel$Sponge" (8 : Nat)) ∈ lw_tbl := lwr_6 120 (by rfl)
set_option maxRecDepth 100000 in
theorem lt_1357 : (Jvm.Cond.instantiable "LatticeKeysModel$Ring" (5 : Nat)) ∈ lw_tbl := lwr_6 157 (by rfl)
set_option maxRecDepth 100000 in
theorem lt_1351 : (Jvm.Cond.instantiable "LatticeKeysModel$Secrets" (14 : Nat)) ∈ lw_tbl := lwr_6 151 (by rfl)
set_option maxRecDepth 100000 in
theorem lt_1423 : (Jvm.Cond.instantiable "LatticeKeysModel$Hands" (31 : Nat)) ∈ lw_tbl := lwr_6 223 (by rfl)
set_option maxRecDepth 100000 in
theorem lt_740 : (Jvm.Cond.instantiable "LatticeKeys$KeyPair" (3 : Nat)) ∈ lw_tbl := lwr_4 20 (by rfl)
set_option maxRecDepth 100000 in
theorem lt_104 : (Jvm.Cond.arrayClass Jvm.ClassFile.FieldType.int) ∈ lw_tbl := lwr_1 104 (by rfl)
set_option maxRecDepth 100000 in
theorem lt_72 : (Jvm.Cond.arrayClass Jvm.ClassFile.FieldType.byte) ∈ lw_tbl := lwr_1 72 (by rfl)
set_option maxRecDepth 100000 in
theorem lt_73 : (Jvm.Cond.arrayClass Jvm.ClassFile.FieldType.long) ∈ lw_tbl := lwr_1 73 (by rfl)
set_option maxRecDepth 100000 in
theorem lt_46 : (Jvm.Cond.arrayOver (Jvm.ClassFile.FieldType.object "LatticeKeys$KemSet")) ∈ lw_tbl := lwr_1 46 (by rfl)
set_option maxRecDepth 100000 in
theorem lt_48 : (Jvm.Cond.arrayOver (Jvm.ClassFile.FieldType.object "LatticeKeys$DsaSet")) ∈ lw_tbl := lwr_1 48 (by rfl)
set_option maxRecDepth 100000 in
theorem lt_44 : (Jvm.Cond.arrayOver (Jvm.ClassFile.FieldType.object "LatticeKeys$KeyPair")) ∈ lw_tbl := lwr_1 44 (by rfl)
set_option maxRecDepth 100000 in
theorem lt_106 : (Jvm.Cond.arrayOver (Jvm.ClassFile.FieldType.array Jvm.ClassFile.FieldType.int)) ∈ lw_tbl := lwr_1 106 (by rfl)
set_option maxRecDepth 100000 in
theorem lt_1318 : (Jvm.Cond.arrayOver (Jvm.ClassFile.FieldType.array Jvm.ClassFile.FieldType.byte)) ∈ lw_tbl := lwr_6 118 (by rfl)
set_option maxRecDepth 100000 in
theorem lt_56 : (Jvm.Cond.laysStatic "LatticeKeys$Sponge" "RATES" "[I") ∈ lw_tbl := lwr_1 56 (by rfl)
set_option maxRecDepth 100000 in
theorem lt_2 : (Jvm.Cond.initialized "LatticeKeys$Sponge") ∈ lw_tbl := lwr_1 2 (by rfl)
set_option maxRecDepth 100000 in
theorem lt_58 : (Jvm.Cond.laysStatic "LatticeKeys$Sponge" "SUFFIXES" "[I") ∈ lw_tbl := lwr_1 58 (by rfl)
set_option maxRecDepth 100000 in
theorem lt_608 : (Jvm.Cond.laysStatic "LatticeKeys$Sponge" "ROUND_CONSTANTS" "[J") ∈ lw_tbl := lwr_3 128 (by rfl)
set_option maxRecDepth 100000 in
theorem lt_603 : (Jvm.Cond.laysStatic "LatticeKeys$Sponge" "PLACES" "[I") ∈ lw_tbl := lwr_3 123 (by rfl)
set_option maxRecDepth 100000 in
theorem lt_605 : (Jvm.Cond.laysStatic "LatticeKeys$Sponge" "TURNS" "[I") ∈ lw_tbl := lwr_3 125 (by rfl)
set_option maxRecDepth 100000 in
theorem lt_223 : (Jvm.Cond.laysStatic "LatticeKeys$KemSet" "RANKS" "[I") ∈ lw_tbl := lwr_1 223 (by rfl)
set_option maxRecDepth 100000 in
theorem lt_7 : (Jvm.Cond.initialized "LatticeKeys$KemSet") ∈ lw_tbl := lwr_1 7 (by rfl)
set_option maxRecDepth 100000 in
theorem lt_225 : (Jvm.Cond.laysStatic "LatticeKeys$KemSet" "SECRET_NOISES" "[I") ∈ lw_tbl := lwr_1 225 (by rfl)
set_option maxRecDepth 100000 in
theorem lt_227 : (Jvm.Cond.laysStatic "LatticeKeys$KemSet" "VECTOR_BITS" "[I") ∈ lw_tbl := lwr_1 227 (by rfl)
set_option maxRecDepth 100000 in
theorem lt_229 : (Jvm.Cond.laysStatic "LatticeKeys$KemSet" "VALUE_BITS" "[I") ∈ lw_tbl := lwr_1 229 (by rfl)
set_option maxRecDepth 100000 in
theorem lt_280 : (Jvm.Cond.laysStatic "LatticeKeys$DsaSet" "ROWS" "[I") ∈ lw_tbl := lwr_2 40 (by rfl)
set_option maxRecDepth 100000 in
theorem lt_8 : (Jvm.Cond.initialized "LatticeKeys$DsaSet") ∈ lw_tbl := lwr_1 8 (by rfl)
set_option maxRecDepth 100000 in
theorem lt_282 : (Jvm.Cond.laysStatic "LatticeKeys$DsaSet" "COLUMNS" "[I") ∈ lw_tbl := lwr_2 42 (by rfl)
set_option maxRecDepth 100000 in
theorem lt_284 : (Jvm.Cond.laysStatic "LatticeKeys$DsaSet" "NOISES" "[I") ∈ lw_tbl := lwr_2 44 (by rfl)
set_option maxRecDepth 100000 in
theorem lt_286 : (Jvm.Cond.laysStatic "LatticeKeys$DsaSet" "NOISE_BITS" "[I") ∈ lw_tbl := lwr_2 46 (by rfl)
set_option maxRecDepth 100000 in
theorem lt_288 : (Jvm.Cond.laysStatic "LatticeKeys$DsaSet" "ONES" "[I") ∈ lw_tbl := lwr_2 48 (by rfl)
set_option maxRecDepth 100000 in
theorem lt_290 : (Jvm.Cond.laysStatic "LatticeKeys$DsaSet" "CHALLENGE_LENGTHS" "[I") ∈ lw_tbl := lwr_2 50 (by rfl)
set_option maxRecDepth 100000 in
theorem lt_292 : (Jvm.Cond.laysStatic "LatticeKeys$DsaSet" "MASK_BITS" "[I") ∈ lw_tbl := lwr_2 52 (by rfl)
set_option maxRecDepth 100000 in
theorem lt_294 : (Jvm.Cond.laysStatic "LatticeKeys$DsaSet" "STEPS" "[I") ∈ lw_tbl := lwr_2 54 (by rfl)
set_option maxRecDepth 100000 in
theorem lt_296 : (Jvm.Cond.laysStatic "LatticeKeys$DsaSet" "STEP_BITS" "[I") ∈ lw_tbl := lwr_2 56 (by rfl)
set_option maxRecDepth 100000 in
theorem lt_299 : (Jvm.Cond.laysStatic "LatticeKeys$DsaSet" "MOST_HINTS" "[I") ∈ lw_tbl := lwr_2 59 (by rfl)
set_option maxRecDepth 100000 in
theorem lt_1606 : (Jvm.Cond.laysStatic "LatticeKeysModel$Secrets" "K" "[I") ∈ lw_tbl := lwr_7 166 (by rfl)
set_option maxRecDepth 100000 in
theorem lt_11 : (Jvm.Cond.initialized "LatticeKeysModel$Secrets") ∈ lw_tbl := lwr_1 11 (by rfl)
set_option maxRecDepth 100000 in
theorem lt_1655 : (Jvm.Cond.laysStatic "LatticeKeysModel$Secrets" "ETA" "[I") ∈ lw_tbl := lwr_7 215 (by rfl)
set_option maxRecDepth 100000 in
theorem lt_1831 : (Jvm.Cond.laysStatic "LatticeKeysModel$Secrets" "DU" "[I") ∈ lw_tbl := lwr_8 151 (by rfl)
set_option maxRecDepth 100000 in
theorem lt_1839 : (Jvm.Cond.laysStatic "LatticeKeysModel$Secrets" "DV" "[I") ∈ lw_tbl := lwr_8 159 (by rfl)
set_option maxRecDepth 100000 in
theorem lt_1707 : (Jvm.Cond.laysStatic "LatticeKeysModel$Hands" "K" "[I") ∈ lw_tbl := lwr_8 27 (by rfl)
set_option maxRecDepth 100000 in
theorem lt_13 : (Jvm.Cond.initialized "LatticeKeysModel$Hands") ∈ lw_tbl := lwr_1 13 (by rfl)
set_option maxRecDepth 100000 in
theorem lt_1709 : (Jvm.Cond.laysStatic "LatticeKeysModel$Hands" "L" "[I") ∈ lw_tbl := lwr_8 29 (by rfl)
set_option maxRecDepth 100000 in
theorem lt_1711 : (Jvm.Cond.laysStatic "LatticeKeysModel$Hands" "ETA" "[I") ∈ lw_tbl := lwr_8 31 (by rfl)
set_option maxRecDepth 100000 in
theorem lt_1717 : (Jvm.Cond.laysStatic "LatticeKeysModel$Hands" "TAU" "[I") ∈ lw_tbl := lwr_8 37 (by rfl)
set_option maxRecDepth 100000 in
theorem lt_1913 : (Jvm.Cond.laysStatic "LatticeKeysModel$Hands" "OMEGA" "[I") ∈ lw_tbl := lwr_8 233 (by rfl)
set_option maxRecDepth 100000 in
theorem lt_463 : (Jvm.Cond.stringRef "LatticeKeys" (71 : Nat) "no room on the tape") ∈ lw_tbl := lwr_2 223 (by rfl)
set_option maxRecDepth 100000 in
theorem lt_510 : (Jvm.Cond.stringRef "LatticeKeys" (81 : Nat) "the tape is not so long") ∈ lw_tbl := lwr_3 30 (by rfl)
set_option maxRecDepth 100000 in
theorem lt_544 : (Jvm.Cond.stringRef "LatticeKeys" (92 : Nat) "no such byte on the tape") ∈ lw_tbl := lwr_3 64 (by rfl)
set_option maxRecDepth 100000 in
theorem lt_564 : (Jvm.Cond.stringRef "LatticeKeys" (103 : Nat) "no such set, or a seed of another length") ∈ lw_tbl := lwr_3 84 (by rfl)
set_option maxRecDepth 100000 in
theorem lt_565 : (Jvm.Cond.stringRef "LatticeKeys" (105 : Nat) "no room for more keys") ∈ lw_tbl := lwr_3 85 (by rfl)
set_option maxRecDepth 100000 in
theorem lt_776 : (Jvm.Cond.stringRef "LatticeKeys" (131 : Nat) "no such set or part, or another length") ∈ lw_tbl := lwr_4 56 (by rfl)
set_option maxRecDepth 100000 in
theorem lt_798 : (Jvm.Cond.stringRef "LatticeKeys" (139 : Nat) "the check of the key fails") ∈ lw_tbl := lwr_4 78 (by rfl)
set_option maxRecDepth 100000 in
theorem lt_1073 : (Jvm.Cond.stringRef "LatticeKeys" (158 : Nat) "no such keys or part") ∈ lw_tbl := lwr_5 113 (by rfl)
set_option maxRecDepth 100000 in
theorem lt_1080 : (Jvm.Cond.stringRef "LatticeKeys" (161 : Nat) "no such byte in the part") ∈ lw_tbl := lwr_5 120 (by rfl)
set_option maxRecDepth 100000 in
theorem lt_1095 : (Jvm.Cond.stringRef "LatticeKeys" (166 : Nat) "no such keys") ∈ lw_tbl := lwr_5 135 (by rfl)
set_option maxRecDepth 100000 in
theorem lt_1096 : (Jvm.Cond.stringRef "LatticeKeys" (177 : Nat) "nothing of that number is told") ∈ lw_tbl := lwr_5 136 (by rfl)
set_option maxRecDepth 100000 in
theorem lt_1108 : (Jvm.Cond.stringRef "LatticeKeys" (182 : Nat) "no such keys of ML-KEM") ∈ lw_tbl := lwr_5 148 (by rfl)
set_option maxRecDepth 100000 in
theorem lt_1109 : (Jvm.Cond.stringRef "LatticeKeys" (184 : Nat) "the tape is not 32 bytes long") ∈ lw_tbl := lwr_5 149 (by rfl)
set_option maxRecDepth 100000 in
theorem lt_1144 : (Jvm.Cond.stringRef "LatticeKeys" (192 : Nat) "no such keys of ML-KEM with a secret part") ∈ lw_tbl := lwr_5 184 (by rfl)
set_option maxRecDepth 100000 in
theorem lt_1145 : (Jvm.Cond.stringRef "LatticeKeys" (194 : Nat) "the tape is not as long as a ciphertext") ∈ lw_tbl := lwr_5 185 (by rfl)
set_option maxRecDepth 100000 in
theorem lt_1169 : (Jvm.Cond.stringRef "LatticeKeys" (203 : Nat) "no such keys of ML-DSA with a secret part") ∈ lw_tbl := lwr_5 209 (by rfl)
set_option maxRecDepth 100000 in
theorem lt_1174 : (Jvm.Cond.stringRef "LatticeKeys" (209 : Nat) "a context of another length, or a short tape") ∈ lw_tbl := lwr_5 214 (by rfl)
set_option maxRecDepth 100000 in
theorem lt_1252 : (Jvm.Cond.stringRef "LatticeKeys" (215 : Nat) "no signature was found in time") ∈ lw_tbl := lwr_6 52 (by rfl)
set_option maxRecDepth 100000 in
theorem lt_1260 : (Jvm.Cond.stringRef "LatticeKeys" (220 : Nat) "no such keys of ML-DSA") ∈ lw_tbl := lwr_6 60 (by rfl)
set_option maxRecDepth 100000 in
theorem lt_1298 : (Jvm.Cond.stringRef "LatticeKeys" (226 : Nat) "no such hash or length") ∈ lw_tbl := lwr_6 98 (by rfl)
set_option maxRecDepth 100000 in
theorem lt_1310 : (Jvm.Cond.stringRef "LatticeKeys" (241 : Nat) "no such byte in the result") ∈ lw_tbl := lwr_6 110 (by rfl)
set_option maxRecDepth 100000 in
theorem lt_424 : (Jvm.Cond.declares ({ cls := "java/lang/RuntimeException", name := "<init>", desc := "(Ljava/lang/String;)V" } : Jvm.MethodName)) ∈ lw_tbl := lwr_2 184 (by rfl)
set_option maxRecDepth 100000 in
theorem lt_426 : (Jvm.Cond.declares ({ cls := "java/lang/Exception", name := "<init>", desc := "(Ljava/lang/String;)V" } : Jvm.MethodName)) ∈ lw_tbl := lwr_2 186 (by rfl)
set_option maxRecDepth 100000 in
theorem lt_428 : (Jvm.Cond.declares ({ cls := "java/lang/Throwable", name := "<init>", desc := "(Ljava/lang/String;)V" } : Jvm.MethodName)) ∈ lw_tbl := lwr_2 188 (by rfl)
set_option maxRecDepth 100000 in
theorem lt_447 : (Jvm.Cond.laysStatic "java/lang/Throwable" "UNASSIGNED_STACK" "[Ljava/lang/StackTraceElement;") ∈ lw_tbl := lwr_2 207 (by rfl)
set_option maxRecDepth 100000 in
theorem lt_449 : (Jvm.Cond.laysStatic "java/lang/Throwable" "SUPPRESSED_SENTINEL" "Ljava/util/List;") ∈ lw_tbl := lwr_2 209 (by rfl)
set_option maxRecDepth 100000 in
theorem lt_503 : (Jvm.Cond.castable "java/lang/IllegalArgumentException" "java/lang/IllegalArgumentException") ∈ lw_tbl := lwr_3 23 (by rfl)
set_option maxRecDepth 100000 in
theorem lt_537 : (Jvm.Cond.castable "java/lang/IndexOutOfBoundsException" "java/lang/IndexOutOfBoundsException") ∈ lw_tbl := lwr_3 57 (by rfl)
set_option maxRecDepth 100000 in
theorem lt_1066 : (Jvm.Cond.castable "java/util/NoSuchElementException" "java/util/NoSuchElementException") ∈ lw_tbl := lwr_5 106 (by rfl)
set_option maxRecDepth 100000 in
theorem lt_422 : (Jvm.Cond.castable "java/lang/IllegalStateException" "java/lang/IllegalStateException") ∈ lw_tbl := lwr_2 182 (by rfl)
set_option maxRecDepth 100000 in
theorem lt_791 : (Jvm.Cond.castable "java/lang/UnsupportedOperationException" "java/lang/UnsupportedOperationException") ∈ lw_tbl := lwr_4 71 (by rfl)
set_option maxRecDepth 100000 in
theorem lt_1665 : (Jvm.Cond.methodLinkNest "LatticeKeysModel$Secrets" (101 : Nat) ({ cls := "LatticeKeysModel", name := "unpack", desc := "([BII)I" } : Jvm.MethodName) "LatticeKeysModel") ∈ lw_tbl := lwr_7 225 (by rfl)
set_option maxRecDepth 100000 in
theorem lt_1688 : (Jvm.Cond.methodLinkNest "LatticeKeysModel$Secrets" (120 : Nat) ({ cls := "LatticeKeysModel", name := "pack", desc := "([BIII)V" } : Jvm.MethodName) "LatticeKeysModel") ∈ lw_tbl := lwr_8 8 (by rfl)
set_option maxRecDepth 100000 in
theorem lt_1743 : (Jvm.Cond.methodLinkNest "LatticeKeysModel$Hands" (187 : Nat) ({ cls := "LatticeKeysModel", name := "pack", desc := "([BIII)V" } : Jvm.MethodName) "LatticeKeysModel") ∈ lw_tbl := lwr_8 63 (by rfl)
set_option maxRecDepth 100000 in
theorem lt_1864 : (Jvm.Cond.methodLinkNest "LatticeKeysModel$Hands" (197 : Nat) ({ cls := "LatticeKeysModel", name := "unpack", desc := "([BII)I" } : Jvm.MethodName) "LatticeKeysModel") ∈ lw_tbl := lwr_8 184 (by rfl)
abbrev FL : List Cond := flatC (Jvm.Cond.and given_1 narrow_1)
theorem le_cls {args : Array Value} {s : State} (hts : ∀ w ∈ lw_tbl, w.before args s = true) : ∃ D : va_G, ∀ (c : Nat) (q : vw_C), vcl[c]? = some q → u_Kn s q.1 q.2.1 q.2.2 (D.1 c) (D.2 c) := by
  have hw : ∀ w ∈ WG, w.before args s = true := fun w h => hts w (List.mem_filter.mp h).1
  obtain ⟨c0, i0, k0⟩ := u_known hw (fun w h => i_K w h) (C := "LatticeKeys") (T := T_K) (N := 11) (hts _ lt_36)
  obtain ⟨c1, i1, k1⟩ := u_known hw (fun w h => i_KS w h) (C := "LatticeKeys$KemSet") (T := T_KS) (N := 10) (hts _ lt_217)
  obtain ⟨c2, i2, k2⟩ := u_known hw (fun w h => i_DS w h) (C := "LatticeKeys$DsaSet") (T := T_DS) (N := 17) (hts _ lt_274)
  obtain ⟨c3, i3, k3⟩ := u_known hw (fun w h => i_SP w h) (C := "LatticeKeys$Sponge") (T := T_SP) (N := 4) (hts _ lt_50)
  obtain ⟨c4, i4, k4⟩ := u_known hw (fun w h => i_RG w h) (C := "LatticeKeys$Ring") (T := T_RG) (N := 4) (hts _ lt_83)
  obtain ⟨c5, i5, k5⟩ := u_known hw (fun w h => i_KM w h) (C := "LatticeKeys$Kem") (T := T_KM) (N := 10) (hts _ lt_75)
  obtain ⟨c6, i6, k6⟩ := u_known hw (fun w h => i_DA w h) (C := "LatticeKeys$Dsa") (T := T_DA) (N := 17) (hts _ lt_139)
  obtain ⟨c7, i7, k7⟩ := u_known hw (fun w h => i_SA w h) (C := "LatticeKeys$DsaSampler") (T := T_SA) (N := 2) (hts _ lt_150)
  obtain ⟨c8, i8, k8⟩ := u_known hw (fun w h => i_M w h) (C := "LatticeKeysModel") (T := T_M) (N := 14) (hts _ lt_1312)
  obtain ⟨c9, i9, k9⟩ := u_known hw (fun w h => i_MS w h) (C := "LatticeKeysModel$Sponge") (T := T_MS) (N := 8) (hts _ lt_1320)
  obtain ⟨c10, i10, k10⟩ := u_known hw (fun w h => i_MR w h) (C := "LatticeKeysModel$Ring") (T := T_MR) (N := 5) (hts _ lt_1357)
  obtain ⟨c11, i11, k11⟩ := u_known hw (fun w h => i_ME w h) (C := "LatticeKeysModel$Secrets") (T := T_ME) (N := 14) (hts _ lt_1351)
  obtain ⟨c12, i12, k12⟩ := u_known hw (fun w h => i_MH w h) (C := "LatticeKeysModel$Hands") (T := T_MH) (N := 31) (hts _ lt_1423)
  obtain ⟨c13, i13, k13⟩ := u_known hw (fun w h => i_KP w h) (C := "LatticeKeys$KeyPair") (T := T_KP) (N := 3) (hts _ lt_740)
  refine ⟨(fun k => match k with | 0 => c0 | 1 => c1 | 2 => c2 | 3 => c3 | 4 => c4 | 5 => c5 | 6 => c6 | 7 => c7 | 8 => c8 | 9 => c9 | 10 => c10 | 11 => c11 | 12 => c12 | _ => c13, fun k => match k with | 0 => i0 | 1 => i1 | 2 => i2 | 3 => i3 | 4 => i4 | 5 => i5 | 6 => i6 | 7 => i7 | 8 => i8 | 9 => i9 | 10 => i10 | 11 => i11 | 12 => i12 | _ => i13), ?_⟩
  intro c q hq
  match c, hq with
  | 0, hq => have e : some (("LatticeKeys", T_K, 11) : vw_C) = some q := hq; cases e; exact k0
  | 1, hq => have e : some (("LatticeKeys$KemSet", T_KS, 10) : vw_C) = some q := hq; cases e; exact k1
  | 2, hq => have e : some (("LatticeKeys$DsaSet", T_DS, 17) : vw_C) = some q := hq; cases e; exact k2
  | 3, hq => have e : some (("LatticeKeys$Sponge", T_SP, 4) : vw_C) = some q := hq; cases e; exact k3
  | 4, hq => have e : some (("LatticeKeys$Ring", T_RG, 4) : vw_C) = some q := hq; cases e; exact k4
  | 5, hq => have e : some (("LatticeKeys$Kem", T_KM, 10) : vw_C) = some q := hq; cases e; exact k5
  | 6, hq => have e : some (("LatticeKeys$Dsa", T_DA, 17) : vw_C) = some q := hq; cases e; exact k6
  | 7, hq => have e : some (("LatticeKeys$DsaSampler", T_SA, 2) : vw_C) = some q := hq; cases e; exact k7
  | 8, hq => have e : some (("LatticeKeysModel", T_M, 14) : vw_C) = some q := hq; cases e; exact k8
  | 9, hq => have e : some (("LatticeKeysModel$Sponge", T_MS, 8) : vw_C) = some q := hq; cases e; exact k9
  | 10, hq => have e : some (("LatticeKeysModel$Ring", T_MR, 5) : vw_C) = some q := hq; cases e; exact k10
  | 11, hq => have e : some (("LatticeKeysModel$Secrets", T_ME, 14) : vw_C) = some q := hq; cases e; exact k11
  | 12, hq => have e : some (("LatticeKeysModel$Hands", T_MH, 31) : vw_C) = some q := hq; cases e; exact k12
  | 13, hq => have e : some (("LatticeKeys$KeyPair", T_KP, 3) : vw_C) = some q := hq; cases e; exact k13
  | n + 14, hq => have e : (none : Option vw_C) = some q := hq; cases e
theorem le_arr {args : Array Value} {s : State} {ty : FieldType} (h : (Cond.arrayClass ty).before args s = true) : ∃ cA : ClassId, ArrOfT s cA ty ∧ s.vm.findClass ("[" ++ ty.toString) = some cA := by
  obtain ⟨c, k, comp, h1, h2, h3⟩ := Cond.arrayClass_spec h
  exact ⟨c, fun n z => ⟨fun k h => (by cases h), k, h2, comp, h3⟩, h1⟩
theorem le_over {args : Array Value} {s : State} {C : String} (h : (Cond.arrayOver (.object C)).before args s = true) : ∃ cA : ClassId, ArrOfT s cA (.object C) ∧ va_RA s cA (.object C) := by
  obtain ⟨comp, c, k, h1, -, h2, h3, h4⟩ := Cond.arrayOver_spec h
  exact ⟨c, fun n z => ⟨fun k h => (by cases h), k, h2, comp, h3⟩, k, comp, h2, h3, h1, h4⟩
theorem le_overA {args : Array Value} {s : State} {ty : FieldType} (h : (Cond.arrayOver (.array ty)).before args s = true) : ∃ cA : ClassId, ArrOfT s cA (.array ty) ∧ s.vm.findClass ("[" ++ (FieldType.array ty).toString) = some cA := by
  obtain ⟨comp, c, k, h1, -, h2, h3, h4⟩ := Stand.arrayOver_specB h
  exact ⟨c, fun n z => ⟨fun k h => (by cases h), k, h2, comp, h3⟩, h4⟩
theorem le_arrs {args : Array Value} {s : State} (hts : ∀ w ∈ lw_tbl, w.before args s = true) : ∃ c : Nat → ClassId, ∀ (k : Nat) (q : ClassId × FieldType), (tyA c)[k]? = some q → ArrOfT s q.1 q.2 ∧ va_RA s q.1 q.2 := by
  obtain ⟨a0, p0, q0⟩ := le_arr (hts _ lt_104)
  obtain ⟨a1, p1, q1⟩ := le_arr (hts _ lt_72)
  obtain ⟨a2, p2, q2⟩ := le_arr (hts _ lt_73)
  obtain ⟨a3, p3, q3⟩ := le_over (hts _ lt_46)
  obtain ⟨a4, p4, q4⟩ := le_over (hts _ lt_48)
  obtain ⟨a5, p5, q5⟩ := le_over (hts _ lt_44)
  obtain ⟨a6, p6, q6⟩ := le_overA (hts _ lt_106)
  obtain ⟨a7, p7, q7⟩ := le_overA (hts _ lt_1318)
  refine ⟨fun k => match k with | 0 => a0 | 1 => a1 | 2 => a2 | 3 => a3 | 4 => a4 | 5 => a5 | 6 => a6 | _ => a7, ?_⟩
  intro k q hq
  match k, hq with
  | 0, hq => have e : some ((a0, .int) : ClassId × FieldType) = some q := hq; cases e; exact ⟨p0, q0⟩
  | 1, hq => have e : some ((a1, .byte) : ClassId × FieldType) = some q := hq; cases e; exact ⟨p1, q1⟩
  | 2, hq => have e : some ((a2, .long) : ClassId × FieldType) = some q := hq; cases e; exact ⟨p2, q2⟩
  | 3, hq => have e : some ((a3, .object "LatticeKeys$KemSet") : ClassId × FieldType) = some q := hq; cases e; exact ⟨p3, q3⟩
  | 4, hq => have e : some ((a4, .object "LatticeKeys$DsaSet") : ClassId × FieldType) = some q := hq; cases e; exact ⟨p4, q4⟩
  | 5, hq => have e : some ((a5, .object "LatticeKeys$KeyPair") : ClassId × FieldType) = some q := hq; cases e; exact ⟨p5, q5⟩
  | 6, hq => have e : some ((a6, .array .int) : ClassId × FieldType) = some q := hq; cases e; exact ⟨p6, q6⟩
  | 7, hq => have e : some ((a7, .array .byte) : ClassId × FieldType) = some q := hq; cases e; exact ⟨p7, q7⟩
  | n + 8, hq => have e : (none : Option (ClassId × FieldType)) = some q := hq; cases e
theorem le_st_0 {args : Array Value} {s : State} {A : Nat → Prop} (hA : ∀ a : Nat, a < s.heap.size → ¬ A a) (hts : ∀ w ∈ lw_tbl, w.before args s = true) (hf : ∀ w ∈ FL, w.before args s = true) : ∃ t : Nat, va_Z "LatticeKeys$Sponge" "RATES" "[I" (.ref t) A s s.heap ∧ va_T .int t 4 st_0 A s s.heap := by
  obtain ⟨t, ht, hT⟩ := va_Tof (args := args) (s := s) (tm := .static "LatticeKeys$Sponge" "RATES" "[I") (ty := .int) (N := 4) (f := st_0) (A := A) (by decide) (hf (Jvm.Cond.arrayOf (Jvm.Term.static "LatticeKeys$Sponge" "RATES" "[I") Jvm.ClassFile.FieldType.int) (List.mem_of_getElem? (i := 5) (by decide +kernel))) (va_eqt (hf (Jvm.Cond.eq (Jvm.Term.length (Jvm.Term.static "LatticeKeys$Sponge" "RATES" "[I")) (Jvm.Term.int (4 : Int32))) (List.mem_of_getElem? (i := 6) (by decide +kernel)))) (fun j hj => by
    match j, hj with
    | 0, _ => exact va_eqt (hf (Jvm.Cond.eq (Jvm.Term.elem (Jvm.Term.static "LatticeKeys$Sponge" "RATES" "[I") (Jvm.Term.int (0 : Int32))) (Jvm.Term.int (136 : Int32))) (List.mem_of_getElem? (i := 7) (by decide +kernel)))
    | 1, _ => exact va_eqt (hf (Jvm.Cond.eq (Jvm.Term.elem (Jvm.Term.static "LatticeKeys$Sponge" "RATES" "[I") (Jvm.Term.int (1 : Int32))) (Jvm.Term.int (72 : Int32))) (List.mem_of_getElem? (i := 8) (by decide +kernel)))
    | 2, _ => exact va_eqt (hf (Jvm.Cond.eq (Jvm.Term.elem (Jvm.Term.static "LatticeKeys$Sponge" "RATES" "[I") (Jvm.Term.int (2 : Int32))) (Jvm.Term.int (168 : Int32))) (List.mem_of_getElem? (i := 9) (by decide +kernel)))
    | 3, _ => exact va_eqt (hf (Jvm.Cond.eq (Jvm.Term.elem (Jvm.Term.static "LatticeKeys$Sponge" "RATES" "[I") (Jvm.Term.int (3 : Int32))) (Jvm.Term.int (136 : Int32))) (List.mem_of_getElem? (i := 10) (by decide +kernel)))
    | n + 4, h => exact absurd h (by omega)) hA
  exact ⟨t, va_Zref (hts _ lt_56) (hts _ lt_2) ht hA, hT⟩
theorem le_st_1 {args : Array Value} {s : State} {A : Nat → Prop} (hA : ∀ a : Nat, a < s.heap.size → ¬ A a) (hts : ∀ w ∈ lw_tbl, w.before args s = true) (hf : ∀ w ∈ FL, w.before args s = true) : ∃ t : Nat, va_Z "LatticeKeys$Sponge" "SUFFIXES" "[I" (.ref t) A s s.heap ∧ va_T .int t 4 st_1 A s s.heap := by
  obtain ⟨t, ht, hT⟩ := va_Tof (args := args) (s := s) (tm := .static "LatticeKeys$Sponge" "SUFFIXES" "[I") (ty := .int) (N := 4) (f := st_1) (A := A) (by decide) (hf (Jvm.Cond.arrayOf (Jvm.Term.static "LatticeKeys$Sponge" "SUFFIXES" "[I") Jvm.ClassFile.FieldType.int) (List.mem_of_getElem? (i := 12) (by decide +kernel))) (va_eqt (hf (Jvm.Cond.eq (Jvm.Term.length (Jvm.Term.static "LatticeKeys$Sponge" "SUFFIXES" "[I")) (Jvm.Term.int (4 : Int32))) (List.mem_of_getElem? (i := 13) (by decide +kernel)))) (fun j hj => by
    match j, hj with
    | 0, _ => exact va_eqt (hf (Jvm.Cond.eq (Jvm.Term.elem (Jvm.Term.static "LatticeKeys$Sponge" "SUFFIXES" "[I") (Jvm.Term.int (0 : Int32))) (Jvm.Term.int (6 : Int32))) (List.mem_of_getElem? (i := 14) (by decide +kernel)))
    | 1, _ => exact va_eqt (hf (Jvm.Cond.eq (Jvm.Term.elem (Jvm.Term.static "LatticeKeys$Sponge" "SUFFIXES" "[I") (Jvm.Term.int (1 : Int32))) (Jvm.Term.int (6 : Int32))) (List.mem_of_getElem? (i := 15) (by decide +kernel)))
    | 2, _ => exact va_eqt (hf (Jvm.Cond.eq (Jvm.Term.elem (Jvm.Term.static "LatticeKeys$Sponge" "SUFFIXES" "[I") (Jvm.Term.int (2 : Int32))) (Jvm.Term.int (31 : Int32))) (List.mem_of_getElem? (i := 16) (by decide +kernel)))
    | 3, _ => exact va_eqt (hf (Jvm.Cond.eq (Jvm.Term.elem (Jvm.Term.static "LatticeKeys$Sponge" "SUFFIXES" "[I") (Jvm.Term.int (3 : Int32))) (Jvm.Term.int (31 : Int32))) (List.mem_of_getElem? (i := 17) (by decide +kernel)))
    | n + 4, h => exact absurd h (by omega)) hA
  exact ⟨t, va_Zref (hts _ lt_58) (hts _ lt_2) ht hA, hT⟩
theorem le_st_2 {args : Array Value} {s : State} {A : Nat → Prop} (hA : ∀ a : Nat, a < s.heap.size → ¬ A a) (hts : ∀ w ∈ lw_tbl, w.before args s = true) (hf : ∀ w ∈ FL, w.before args s = true) : ∃ t : Nat, va_Z "LatticeKeys$Sponge" "ROUND_CONSTANTS" "[J" (.ref t) A s s.heap ∧ va_T .long t 24 st_2 A s s.heap := by
  obtain ⟨t, ht, hT⟩ := va_Tof (args := args) (s := s) (tm := .static "LatticeKeys$Sponge" "ROUND_CONSTANTS" "[J") (ty := .long) (N := 24) (f := st_2) (A := A) (by decide) (hf (Jvm.Cond.arrayOf (Jvm.Term.static "LatticeKeys$Sponge" "ROUND_CONSTANTS" "[J") Jvm.ClassFile.FieldType.long) (List.mem_of_getElem? (i := 159) (by decide +kernel))) (va_eqt (hf (Jvm.Cond.eq (Jvm.Term.length (Jvm.Term.static "LatticeKeys$Sponge" "ROUND_CONSTANTS" "[J")) (Jvm.Term.int (24 : Int32))) (List.mem_of_getElem? (i := 160) (by decide +kernel)))) (fun j hj => by
    match j, hj with
    | 0, _ => exact va_eqtl (hf (Jvm.Cond.eq (Jvm.Term.elem (Jvm.Term.static "LatticeKeys$Sponge" "ROUND_CONSTANTS" "[J") (Jvm.Term.int (0 : Int32))) (Jvm.Term.long (1 : Int64))) (List.mem_of_getElem? (i := 161) (by decide +kernel)))
    | 1, _ => exact va_eqtl (hf (Jvm.Cond.eq (Jvm.Term.elem (Jvm.Term.static "LatticeKeys$Sponge" "ROUND_CONSTANTS" "[J") (Jvm.Term.int (1 : Int32))) (Jvm.Term.long (32898 : Int64))) (List.mem_of_getElem? (i := 162) (by decide +kernel)))
    | 2, _ => exact va_eqtl (hf (Jvm.Cond.eq (Jvm.Term.elem (Jvm.Term.static "LatticeKeys$Sponge" "ROUND_CONSTANTS" "[J") (Jvm.Term.int (2 : Int32))) (Jvm.Term.long (-9223372036854742902 : Int64))) (List.mem_of_getElem? (i := 163) (by decide +kernel)))
    | 3, _ => exact va_eqtl (hf (Jvm.Cond.eq (Jvm.Term.elem (Jvm.Term.static "LatticeKeys$Sponge" "ROUND_CONSTANTS" "[J") (Jvm.Term.int (3 : Int32))) (Jvm.Term.long (-9223372034707259392 : Int64))) (List.mem_of_getElem? (i := 164) (by decide +kernel)))
    | 4, _ => exact va_eqtl (hf (Jvm.Cond.eq (Jvm.Term.elem (Jvm.Term.static "LatticeKeys$Sponge" "ROUND_CONSTANTS" "[J") (Jvm.Term.int (4 : Int32))) (Jvm.Term.long (32907 : Int64))) (List.mem_of_getElem? (i := 165) (by decide +kernel)))
    | 5, _ => exact va_eqtl (hf (Jvm.Cond.eq (Jvm.Term.elem (Jvm.Term.static "LatticeKeys$Sponge" "ROUND_CONSTANTS" "[J") (Jvm.Term.int (5 : Int32))) (Jvm.Term.long (2147483649 : Int64))) (List.mem_of_getElem? (i := 166) (by decide +kernel)))
    | 6, _ => exact va_eqtl (hf (Jvm.Cond.eq (Jvm.Term.elem (Jvm.Term.static "LatticeKeys$Sponge" "ROUND_CONSTANTS" "[J") (Jvm.Term.int (6 : Int32))) (Jvm.Term.long (-9223372034707259263 : Int64))) (List.mem_of_getElem? (i := 167) (by decide +kernel)))
    | 7, _ => exact va_eqtl (hf (Jvm.Cond.eq (Jvm.Term.elem (Jvm.Term.static "LatticeKeys$Sponge" "ROUND_CONSTANTS" "[J") (Jvm.Term.int (7 : Int32))) (Jvm.Term.long (-9223372036854743031 : Int64))) (List.mem_of_getElem? (i := 168) (by decide +kernel)))
    | 8, _ => exact va_eqtl (hf (Jvm.Cond.eq (Jvm.Term.elem (Jvm.Term.static "LatticeKeys$Sponge" "ROUND_CONSTANTS" "[J") (Jvm.Term.int (8 : Int32))) (Jvm.Term.long (138 : Int64))) (List.mem_of_getElem? (i := 169) (by decide +kernel)))
    | 9, _ => exact va_eqtl (hf (Jvm.Cond.eq (Jvm.Term.elem (Jvm.Term.static "LatticeKeys$Sponge" "ROUND_CONSTANTS" "[J") (Jvm.Term.int (9 : Int32))) (Jvm.Term.long (136 : Int64))) (List.mem_of_getElem? (i := 170) (by decide +kernel)))
    | 10, _ => exact va_eqtl (hf (Jvm.Cond.eq (Jvm.Term.elem (Jvm.Term.static "LatticeKeys$Sponge" "ROUND_CONSTANTS" "[J") (Jvm.Term.int (10 : Int32))) (Jvm.Term.long (2147516425 : Int64))) (List.mem_of_getElem? (i := 171) (by decide +kernel)))
    | 11, _ => exact va_eqtl (hf (Jvm.Cond.eq (Jvm.Term.elem (Jvm.Term.static "LatticeKeys$Sponge" "ROUND_CONSTANTS" "[J") (Jvm.Term.int (11 : Int32))) (Jvm.Term.long (2147483658 : Int64))) (List.mem_of_getElem? (i := 172) (by decide +kernel)))
    | 12, _ => exact va_eqtl (hf (Jvm.Cond.eq (Jvm.Term.elem (Jvm.Term.static "LatticeKeys$Sponge" "ROUND_CONSTANTS" "[J") (Jvm.Term.int (12 : Int32))) (Jvm.Term.long (2147516555 : Int64))) (List.mem_of_getElem? (i := 173) (by decide +kernel)))
    | 13, _ => exact va_eqtl (hf (Jvm.Cond.eq (Jvm.Term.elem (Jvm.Term.static "LatticeKeys$Sponge" "ROUND_CONSTANTS" "[J") (Jvm.Term.int (13 : Int32))) (Jvm.Term.long (-9223372036854775669 : Int64))) (List.mem_of_getElem? (i := 174) (by decide +kernel)))
    | 14, _ => exact va_eqtl (hf (Jvm.Cond.eq (Jvm.Term.elem (Jvm.Term.static "LatticeKeys$Sponge" "ROUND_CONSTANTS" "[J") (Jvm.Term.int (14 : Int32))) (Jvm.Term.long (-9223372036854742903 : Int64))) (List.mem_of_getElem? (i := 175) (by decide +kernel)))
    | 15, _ => exact va_eqtl (hf (Jvm.Cond.eq (Jvm.Term.elem (Jvm.Term.static "LatticeKeys$Sponge" "ROUND_CONSTANTS" "[J") (Jvm.Term.int (15 : Int32))) (Jvm.Term.long (-9223372036854743037 : Int64))) (List.mem_of_getElem? (i := 176) (by decide +kernel)))
    | 16, _ => exact va_eqtl (hf (Jvm.Cond.eq (Jvm.Term.elem (Jvm.Term.static "LatticeKeys$Sponge" "ROUND_CONSTANTS" "[J") (Jvm.Term.int (16 : Int32))) (Jvm.Term.long (-9223372036854743038 : Int64))) (List.mem_of_getElem? (i := 177) (by decide +kernel)))
    | 17, _ => exact va_eqtl (hf (Jvm.Cond.eq (Jvm.Term.elem (Jvm.Term.static "LatticeKeys$Sponge" "ROUND_CONSTANTS" "[J") (Jvm.Term.int (17 : Int32))) (Jvm.Term.long (-9223372036854775680 : Int64))) (List.mem_of_getElem? (i := 178) (by decide +kernel)))
    | 18, _ => exact va_eqtl (hf (Jvm.Cond.eq (Jvm.Term.elem (Jvm.Term.static "LatticeKeys$Sponge" "ROUND_CONSTANTS" "[J") (Jvm.Term.int (18 : Int32))) (Jvm.Term.long (32778 : Int64))) (List.mem_of_getElem? (i := 179) (by decide +kernel)))
    | 19, _ => exact va_eqtl (hf (Jvm.Cond.eq (Jvm.Term.elem (Jvm.Term.static "LatticeKeys$Sponge" "ROUND_CONSTANTS" "[J") (Jvm.Term.int (19 : Int32))) (Jvm.Term.long (-9223372034707292150 : Int64))) (List.mem_of_getElem? (i := 180) (by decide +kernel)))
    | 20, _ => exact va_eqtl (hf (Jvm.Cond.eq (Jvm.Term.elem (Jvm.Term.static "LatticeKeys$Sponge" "ROUND_CONSTANTS" "[J") (Jvm.Term.int (20 : Int32))) (Jvm.Term.long (-9223372034707259263 : Int64))) (List.mem_of_getElem? (i := 181) (by decide +kernel)))
    | 21, _ => exact va_eqtl (hf (Jvm.Cond.eq (Jvm.Term.elem (Jvm.Term.static "LatticeKeys$Sponge" "ROUND_CONSTANTS" "[J") (Jvm.Term.int (21 : Int32))) (Jvm.Term.long (-9223372036854742912 : Int64))) (List.mem_of_getElem? (i := 182) (by decide +kernel)))
    | 22, _ => exact va_eqtl (hf (Jvm.Cond.eq (Jvm.Term.elem (Jvm.Term.static "LatticeKeys$Sponge" "ROUND_CONSTANTS" "[J") (Jvm.Term.int (22 : Int32))) (Jvm.Term.long (2147483649 : Int64))) (List.mem_of_getElem? (i := 183) (by decide +kernel)))
    | 23, _ => exact va_eqtl (hf (Jvm.Cond.eq (Jvm.Term.elem (Jvm.Term.static "LatticeKeys$Sponge" "ROUND_CONSTANTS" "[J") (Jvm.Term.int (23 : Int32))) (Jvm.Term.long (-9223372034707259384 : Int64))) (List.mem_of_getElem? (i := 184) (by decide +kernel)))
    | n + 24, h => exact absurd h (by omega)) hA
  exact ⟨t, va_Zref (hts _ lt_608) (hts _ lt_2) ht hA, hT⟩
theorem le_st_3 {args : Array Value} {s : State} {A : Nat → Prop} (hA : ∀ a : Nat, a < s.heap.size → ¬ A a) (hts : ∀ w ∈ lw_tbl, w.before args s = true) (hf : ∀ w ∈ FL, w.before args s = true) : ∃ t : Nat, va_Z "LatticeKeys$Sponge" "PLACES" "[I" (.ref t) A s s.heap ∧ va_T .int t 24 st_3 A s s.heap := by
  obtain ⟨t, ht, hT⟩ := va_Tof (args := args) (s := s) (tm := .static "LatticeKeys$Sponge" "PLACES" "[I") (ty := .int) (N := 24) (f := st_3) (A := A) (by decide) (hf (Jvm.Cond.arrayOf (Jvm.Term.static "LatticeKeys$Sponge" "PLACES" "[I") Jvm.ClassFile.FieldType.int) (List.mem_of_getElem? (i := 105) (by decide +kernel))) (va_eqt (hf (Jvm.Cond.eq (Jvm.Term.length (Jvm.Term.static "LatticeKeys$Sponge" "PLACES" "[I")) (Jvm.Term.int (24 : Int32))) (List.mem_of_getElem? (i := 106) (by decide +kernel)))) (fun j hj => by
    match j, hj with
    | 0, _ => exact va_eqt (hf (Jvm.Cond.eq (Jvm.Term.elem (Jvm.Term.static "LatticeKeys$Sponge" "PLACES" "[I") (Jvm.Term.int (0 : Int32))) (Jvm.Term.int (10 : Int32))) (List.mem_of_getElem? (i := 107) (by decide +kernel)))
    | 1, _ => exact va_eqt (hf (Jvm.Cond.eq (Jvm.Term.elem (Jvm.Term.static "LatticeKeys$Sponge" "PLACES" "[I") (Jvm.Term.int (1 : Int32))) (Jvm.Term.int (7 : Int32))) (List.mem_of_getElem? (i := 108) (by decide +kernel)))
    | 2, _ => exact va_eqt (hf (Jvm.Cond.eq (Jvm.Term.elem (Jvm.Term.static "LatticeKeys$Sponge" "PLACES" "[I") (Jvm.Term.int (2 : Int32))) (Jvm.Term.int (11 : Int32))) (List.mem_of_getElem? (i := 109) (by decide +kernel)))
    | 3, _ => exact va_eqt (hf (Jvm.Cond.eq (Jvm.Term.elem (Jvm.Term.static "LatticeKeys$Sponge" "PLACES" "[I") (Jvm.Term.int (3 : Int32))) (Jvm.Term.int (17 : Int32))) (List.mem_of_getElem? (i := 110) (by decide +kernel)))
    | 4, _ => exact va_eqt (hf (Jvm.Cond.eq (Jvm.Term.elem (Jvm.Term.static "LatticeKeys$Sponge" "PLACES" "[I") (Jvm.Term.int (4 : Int32))) (Jvm.Term.int (18 : Int32))) (List.mem_of_getElem? (i := 111) (by decide +kernel)))
    | 5, _ => exact va_eqt (hf (Jvm.Cond.eq (Jvm.Term.elem (Jvm.Term.static "LatticeKeys$Sponge" "PLACES" "[I") (Jvm.Term.int (5 : Int32))) (Jvm.Term.int (3 : Int32))) (List.mem_of_getElem? (i := 112) (by decide +kernel)))
    | 6, _ => exact va_eqt (hf (Jvm.Cond.eq (Jvm.Term.elem (Jvm.Term.static "LatticeKeys$Sponge" "PLACES" "[I") (Jvm.Term.int (6 : Int32))) (Jvm.Term.int (5 : Int32))) (List.mem_of_getElem? (i := 113) (by decide +kernel)))
    | 7, _ => exact va_eqt (hf (Jvm.Cond.eq (Jvm.Term.elem (Jvm.Term.static "LatticeKeys$Sponge" "PLACES" "[I") (Jvm.Term.int (7 : Int32))) (Jvm.Term.int (16 : Int32))) (List.mem_of_getElem? (i := 114) (by decide +kernel)))
    | 8, _ => exact va_eqt (hf (Jvm.Cond.eq (Jvm.Term.elem (Jvm.Term.static "LatticeKeys$Sponge" "PLACES" "[I") (Jvm.Term.int (8 : Int32))) (Jvm.Term.int (8 : Int32))) (List.mem_of_getElem? (i := 115) (by decide +kernel)))
    | 9, _ => exact va_eqt (hf (Jvm.Cond.eq (Jvm.Term.elem (Jvm.Term.static "LatticeKeys$Sponge" "PLACES" "[I") (Jvm.Term.int (9 : Int32))) (Jvm.Term.int (21 : Int32))) (List.mem_of_getElem? (i := 116) (by decide +kernel)))
    | 10, _ => exact va_eqt (hf (Jvm.Cond.eq (Jvm.Term.elem (Jvm.Term.static "LatticeKeys$Sponge" "PLACES" "[I") (Jvm.Term.int (10 : Int32))) (Jvm.Term.int (24 : Int32))) (List.mem_of_getElem? (i := 117) (by decide +kernel)))
    | 11, _ => exact va_eqt (hf (Jvm.Cond.eq (Jvm.Term.elem (Jvm.Term.static "LatticeKeys$Sponge" "PLACES" "[I") (Jvm.Term.int (11 : Int32))) (Jvm.Term.int (4 : Int32))) (List.mem_of_getElem? (i := 118) (by decide +kernel)))
    | 12, _ => exact va_eqt (hf (Jvm.Cond.eq (Jvm.Term.elem (Jvm.Term.static "LatticeKeys$Sponge" "PLACES" "[I") (Jvm.Term.int (12 : Int32))) (Jvm.Term.int (15 : Int32))) (List.mem_of_getElem? (i := 119) (by decide +kernel)))
    | 13, _ => exact va_eqt (hf (Jvm.Cond.eq (Jvm.Term.elem (Jvm.Term.static "LatticeKeys$Sponge" "PLACES" "[I") (Jvm.Term.int (13 : Int32))) (Jvm.Term.int (23 : Int32))) (List.mem_of_getElem? (i := 120) (by decide +kernel)))
    | 14, _ => exact va_eqt (hf (Jvm.Cond.eq (Jvm.Term.elem (Jvm.Term.static "LatticeKeys$Sponge" "PLACES" "[I") (Jvm.Term.int (14 : Int32))) (Jvm.Term.int (19 : Int32))) (List.mem_of_getElem? (i := 121) (by decide +kernel)))
    | 15, _ => exact va_eqt (hf (Jvm.Cond.eq (Jvm.Term.elem (Jvm.Term.static "LatticeKeys$Sponge" "PLACES" "[I") (Jvm.Term.int (15 : Int32))) (Jvm.Term.int (13 : Int32))) (List.mem_of_getElem? (i := 122) (by decide +kernel)))
    | 16, _ => exact va_eqt (hf (Jvm.Cond.eq (Jvm.Term.elem (Jvm.Term.static "LatticeKeys$Sponge" "PLACES" "[I") (Jvm.Term.int (16 : Int32))) (Jvm.Term.int (12 : Int32))) (List.mem_of_getElem? (i := 123) (by decide +kernel)))
    | 17, _ => exact va_eqt (hf (Jvm.Cond.eq (Jvm.Term.elem (Jvm.Term.static "LatticeKeys$Sponge" "PLACES" "[I") (Jvm.Term.int (17 : Int32))) (Jvm.Term.int (2 : Int32))) (List.mem_of_getElem? (i := 124) (by decide +kernel)))
    | 18, _ => exact va_eqt (hf (Jvm.Cond.eq (Jvm.Term.elem (Jvm.Term.static "LatticeKeys$Sponge" "PLACES" "[I") (Jvm.Term.int (18 : Int32))) (Jvm.Term.int (20 : Int32))) (List.mem_of_getElem? (i := 125) (by decide +kernel)))
    | 19, _ => exact va_eqt (hf (Jvm.Cond.eq (Jvm.Term.elem (Jvm.Term.static "LatticeKeys$Sponge" "PLACES" "[I") (Jvm.Term.int (19 : Int32))) (Jvm.Term.int (14 : Int32))) (List.mem_of_getElem? (i := 126) (by decide +kernel)))
    | 20, _ => exact va_eqt (hf (Jvm.Cond.eq (Jvm.Term.elem (Jvm.Term.static "LatticeKeys$Sponge" "PLACES" "[I") (Jvm.Term.int (20 : Int32))) (Jvm.Term.int (22 : Int32))) (List.mem_of_getElem? (i := 127) (by decide +kernel)))
    | 21, _ => exact va_eqt (hf (Jvm.Cond.eq (Jvm.Term.elem (Jvm.Term.static "LatticeKeys$Sponge" "PLACES" "[I") (Jvm.Term.int (21 : Int32))) (Jvm.Term.int (9 : Int32))) (List.mem_of_getElem? (i := 128) (by decide +kernel)))
    | 22, _ => exact va_eqt (hf (Jvm.Cond.eq (Jvm.Term.elem (Jvm.Term.static "LatticeKeys$Sponge" "PLACES" "[I") (Jvm.Term.int (22 : Int32))) (Jvm.Term.int (6 : Int32))) (List.mem_of_getElem? (i := 129) (by decide +kernel)))
    | 23, _ => exact va_eqt (hf (Jvm.Cond.eq (Jvm.Term.elem (Jvm.Term.static "LatticeKeys$Sponge" "PLACES" "[I") (Jvm.Term.int (23 : Int32))) (Jvm.Term.int (1 : Int32))) (List.mem_of_getElem? (i := 130) (by decide +kernel)))
    | n + 24, h => exact absurd h (by omega)) hA
  exact ⟨t, va_Zref (hts _ lt_603) (hts _ lt_2) ht hA, hT⟩
theorem le_st_4 {args : Array Value} {s : State} {A : Nat → Prop} (hA : ∀ a : Nat, a < s.heap.size → ¬ A a) (hts : ∀ w ∈ lw_tbl, w.before args s = true) (hf : ∀ w ∈ FL, w.before args s = true) : ∃ t : Nat, va_Z "LatticeKeys$Sponge" "TURNS" "[I" (.ref t) A s s.heap ∧ va_T .int t 24 st_4 A s s.heap := by
  obtain ⟨t, ht, hT⟩ := va_Tof (args := args) (s := s) (tm := .static "LatticeKeys$Sponge" "TURNS" "[I") (ty := .int) (N := 24) (f := st_4) (A := A) (by decide) (hf (Jvm.Cond.arrayOf (Jvm.Term.static "LatticeKeys$Sponge" "TURNS" "[I") Jvm.ClassFile.FieldType.int) (List.mem_of_getElem? (i := 132) (by decide +kernel))) (va_eqt (hf (Jvm.Cond.eq (Jvm.Term.length (Jvm.Term.static "LatticeKeys$Sponge" "TURNS" "[I")) (Jvm.Term.int (24 : Int32))) (List.mem_of_getElem? (i := 133) (by decide +kernel)))) (fun j hj => by
    match j, hj with
    | 0, _ => exact va_eqt (hf (Jvm.Cond.eq (Jvm.Term.elem (Jvm.Term.static "LatticeKeys$Sponge" "TURNS" "[I") (Jvm.Term.int (0 : Int32))) (Jvm.Term.int (1 : Int32))) (List.mem_of_getElem? (i := 134) (by decide +kernel)))
    | 1, _ => exact va_eqt (hf (Jvm.Cond.eq (Jvm.Term.elem (Jvm.Term.static "LatticeKeys$Sponge" "TURNS" "[I") (Jvm.Term.int (1 : Int32))) (Jvm.Term.int (3 : Int32))) (List.mem_of_getElem? (i := 135) (by decide +kernel)))
    | 2, _ => exact va_eqt (hf (Jvm.Cond.eq (Jvm.Term.elem (Jvm.Term.static "LatticeKeys$Sponge" "TURNS" "[I") (Jvm.Term.int (2 : Int32))) (Jvm.Term.int (6 : Int32))) (List.mem_of_getElem? (i := 136) (by decide +kernel)))
    | 3, _ => exact va_eqt (hf (Jvm.Cond.eq (Jvm.Term.elem (Jvm.Term.static "LatticeKeys$Sponge" "TURNS" "[I") (Jvm.Term.int (3 : Int32))) (Jvm.Term.int (10 : Int32))) (List.mem_of_getElem? (i := 137) (by decide +kernel)))
    | 4, _ => exact va_eqt (hf (Jvm.Cond.eq (Jvm.Term.elem (Jvm.Term.static "LatticeKeys$Sponge" "TURNS" "[I") (Jvm.Term.int (4 : Int32))) (Jvm.Term.int (15 : Int32))) (List.mem_of_getElem? (i := 138) (by decide +kernel)))
    | 5, _ => exact va_eqt (hf (Jvm.Cond.eq (Jvm.Term.elem (Jvm.Term.static "LatticeKeys$Sponge" "TURNS" "[I") (Jvm.Term.int (5 : Int32))) (Jvm.Term.int (21 : Int32))) (List.mem_of_getElem? (i := 139) (by decide +kernel)))
    | 6, _ => exact va_eqt (hf (Jvm.Cond.eq (Jvm.Term.elem (Jvm.Term.static "LatticeKeys$Sponge" "TURNS" "[I") (Jvm.Term.int (6 : Int32))) (Jvm.Term.int (28 : Int32))) (List.mem_of_getElem? (i := 140) (by decide +kernel)))
    | 7, _ => exact va_eqt (hf (Jvm.Cond.eq (Jvm.Term.elem (Jvm.Term.static "LatticeKeys$Sponge" "TURNS" "[I") (Jvm.Term.int (7 : Int32))) (Jvm.Term.int (36 : Int32))) (List.mem_of_getElem? (i := 141) (by decide +kernel)))
    | 8, _ => exact va_eqt (hf (Jvm.Cond.eq (Jvm.Term.elem (Jvm.Term.static "LatticeKeys$Sponge" "TURNS" "[I") (Jvm.Term.int (8 : Int32))) (Jvm.Term.int (45 : Int32))) (List.mem_of_getElem? (i := 142) (by decide +kernel)))
    | 9, _ => exact va_eqt (hf (Jvm.Cond.eq (Jvm.Term.elem (Jvm.Term.static "LatticeKeys$Sponge" "TURNS" "[I") (Jvm.Term.int (9 : Int32))) (Jvm.Term.int (55 : Int32))) (List.mem_of_getElem? (i := 143) (by decide +kernel)))
    | 10, _ => exact va_eqt (hf (Jvm.Cond.eq (Jvm.Term.elem (Jvm.Term.static "LatticeKeys$Sponge" "TURNS" "[I") (Jvm.Term.int (10 : Int32))) (Jvm.Term.int (2 : Int32))) (List.mem_of_getElem? (i := 144) (by decide +kernel)))
    | 11, _ => exact va_eqt (hf (Jvm.Cond.eq (Jvm.Term.elem (Jvm.Term.static "LatticeKeys$Sponge" "TURNS" "[I") (Jvm.Term.int (11 : Int32))) (Jvm.Term.int (14 : Int32))) (List.mem_of_getElem? (i := 145) (by decide +kernel)))
    | 12, _ => exact va_eqt (hf (Jvm.Cond.eq (Jvm.Term.elem (Jvm.Term.static "LatticeKeys$Sponge" "TURNS" "[I") (Jvm.Term.int (12 : Int32))) (Jvm.Term.int (27 : Int32))) (List.mem_of_getElem? (i := 146) (by decide +kernel)))
    | 13, _ => exact va_eqt (hf (Jvm.Cond.eq (Jvm.Term.elem (Jvm.Term.static "LatticeKeys$Sponge" "TURNS" "[I") (Jvm.Term.int (13 : Int32))) (Jvm.Term.int (41 : Int32))) (List.mem_of_getElem? (i := 147) (by decide +kernel)))
    | 14, _ => exact va_eqt (hf (Jvm.Cond.eq (Jvm.Term.elem (Jvm.Term.static "LatticeKeys$Sponge" "TURNS" "[I") (Jvm.Term.int (14 : Int32))) (Jvm.Term.int (56 : Int32))) (List.mem_of_getElem? (i := 148) (by decide +kernel)))
    | 15, _ => exact va_eqt (hf (Jvm.Cond.eq (Jvm.Term.elem (Jvm.Term.static "LatticeKeys$Sponge" "TURNS" "[I") (Jvm.Term.int (15 : Int32))) (Jvm.Term.int (8 : Int32))) (List.mem_of_getElem? (i := 149) (by decide +kernel)))
    | 16, _ => exact va_eqt (hf (Jvm.Cond.eq (Jvm.Term.elem (Jvm.Term.static "LatticeKeys$Sponge" "TURNS" "[I") (Jvm.Term.int (16 : Int32))) (Jvm.Term.int (25 : Int32))) (List.mem_of_getElem? (i := 150) (by decide +kernel)))
    | 17, _ => exact va_eqt (hf (Jvm.Cond.eq (Jvm.Term.elem (Jvm.Term.static "LatticeKeys$Sponge" "TURNS" "[I") (Jvm.Term.int (17 : Int32))) (Jvm.Term.int (43 : Int32))) (List.mem_of_getElem? (i := 151) (by decide +kernel)))
    | 18, _ => exact va_eqt (hf (Jvm.Cond.eq (Jvm.Term.elem (Jvm.Term.static "LatticeKeys$Sponge" "TURNS" "[I") (Jvm.Term.int (18 : Int32))) (Jvm.Term.int (62 : Int32))) (List.mem_of_getElem? (i := 152) (by decide +kernel)))
    | 19, _ => exact va_eqt (hf (Jvm.Cond.eq (Jvm.Term.elem (Jvm.Term.static "LatticeKeys$Sponge" "TURNS" "[I") (Jvm.Term.int (19 : Int32))) (Jvm.Term.int (18 : Int32))) (List.mem_of_getElem? (i := 153) (by decide +kernel)))
    | 20, _ => exact va_eqt (hf (Jvm.Cond.eq (Jvm.Term.elem (Jvm.Term.static "LatticeKeys$Sponge" "TURNS" "[I") (Jvm.Term.int (20 : Int32))) (Jvm.Term.int (39 : Int32))) (List.mem_of_getElem? (i := 154) (by decide +kernel)))
    | 21, _ => exact va_eqt (hf (Jvm.Cond.eq (Jvm.Term.elem (Jvm.Term.static "LatticeKeys$Sponge" "TURNS" "[I") (Jvm.Term.int (21 : Int32))) (Jvm.Term.int (61 : Int32))) (List.mem_of_getElem? (i := 155) (by decide +kernel)))
    | 22, _ => exact va_eqt (hf (Jvm.Cond.eq (Jvm.Term.elem (Jvm.Term.static "LatticeKeys$Sponge" "TURNS" "[I") (Jvm.Term.int (22 : Int32))) (Jvm.Term.int (20 : Int32))) (List.mem_of_getElem? (i := 156) (by decide +kernel)))
    | 23, _ => exact va_eqt (hf (Jvm.Cond.eq (Jvm.Term.elem (Jvm.Term.static "LatticeKeys$Sponge" "TURNS" "[I") (Jvm.Term.int (23 : Int32))) (Jvm.Term.int (44 : Int32))) (List.mem_of_getElem? (i := 157) (by decide +kernel)))
    | n + 24, h => exact absurd h (by omega)) hA
  exact ⟨t, va_Zref (hts _ lt_605) (hts _ lt_2) ht hA, hT⟩
theorem le_st_5 {args : Array Value} {s : State} {A : Nat → Prop} (hA : ∀ a : Nat, a < s.heap.size → ¬ A a) (hts : ∀ w ∈ lw_tbl, w.before args s = true) (hf : ∀ w ∈ FL, w.before args s = true) : ∃ t : Nat, va_Z "LatticeKeys$KemSet" "RANKS" "[I" (.ref t) A s s.heap ∧ va_T .int t 3 st_5 A s s.heap := by
  obtain ⟨t, ht, hT⟩ := va_Tof (args := args) (s := s) (tm := .static "LatticeKeys$KemSet" "RANKS" "[I") (ty := .int) (N := 3) (f := st_5) (A := A) (by decide) (hf (Jvm.Cond.arrayOf (Jvm.Term.static "LatticeKeys$KemSet" "RANKS" "[I") Jvm.ClassFile.FieldType.int) (List.mem_of_getElem? (i := 19) (by decide +kernel))) (va_eqt (hf (Jvm.Cond.eq (Jvm.Term.length (Jvm.Term.static "LatticeKeys$KemSet" "RANKS" "[I")) (Jvm.Term.int (3 : Int32))) (List.mem_of_getElem? (i := 20) (by decide +kernel)))) (fun j hj => by
    match j, hj with
    | 0, _ => exact va_eqt (hf (Jvm.Cond.eq (Jvm.Term.elem (Jvm.Term.static "LatticeKeys$KemSet" "RANKS" "[I") (Jvm.Term.int (0 : Int32))) (Jvm.Term.int (2 : Int32))) (List.mem_of_getElem? (i := 21) (by decide +kernel)))
    | 1, _ => exact va_eqt (hf (Jvm.Cond.eq (Jvm.Term.elem (Jvm.Term.static "LatticeKeys$KemSet" "RANKS" "[I") (Jvm.Term.int (1 : Int32))) (Jvm.Term.int (3 : Int32))) (List.mem_of_getElem? (i := 22) (by decide +kernel)))
    | 2, _ => exact va_eqt (hf (Jvm.Cond.eq (Jvm.Term.elem (Jvm.Term.static "LatticeKeys$KemSet" "RANKS" "[I") (Jvm.Term.int (2 : Int32))) (Jvm.Term.int (4 : Int32))) (List.mem_of_getElem? (i := 23) (by decide +kernel)))
    | n + 3, h => exact absurd h (by omega)) hA
  exact ⟨t, va_Zref (hts _ lt_223) (hts _ lt_7) ht hA, hT⟩
theorem le_st_6 {args : Array Value} {s : State} {A : Nat → Prop} (hA : ∀ a : Nat, a < s.heap.size → ¬ A a) (hts : ∀ w ∈ lw_tbl, w.before args s = true) (hf : ∀ w ∈ FL, w.before args s = true) : ∃ t : Nat, va_Z "LatticeKeys$KemSet" "SECRET_NOISES" "[I" (.ref t) A s s.heap ∧ va_T .int t 3 st_6 A s s.heap := by
  obtain ⟨t, ht, hT⟩ := va_Tof (args := args) (s := s) (tm := .static "LatticeKeys$KemSet" "SECRET_NOISES" "[I") (ty := .int) (N := 3) (f := st_6) (A := A) (by decide) (hf (Jvm.Cond.arrayOf (Jvm.Term.static "LatticeKeys$KemSet" "SECRET_NOISES" "[I") Jvm.ClassFile.FieldType.int) (List.mem_of_getElem? (i := 25) (by decide +kernel))) (va_eqt (hf (Jvm.Cond.eq (Jvm.Term.length (Jvm.Term.static "LatticeKeys$KemSet" "SECRET_NOISES" "[I")) (Jvm.Term.int (3 : Int32))) (List.mem_of_getElem? (i := 26) (by decide +kernel)))) (fun j hj => by
    match j, hj with
    | 0, _ => exact va_eqt (hf (Jvm.Cond.eq (Jvm.Term.elem (Jvm.Term.static "LatticeKeys$KemSet" "SECRET_NOISES" "[I") (Jvm.Term.int (0 : Int32))) (Jvm.Term.int (3 : Int32))) (List.mem_of_getElem? (i := 27) (by decide +kernel)))
    | 1, _ => exact va_eqt (hf (Jvm.Cond.eq (Jvm.Term.elem (Jvm.Term.static "LatticeKeys$KemSet" "SECRET_NOISES" "[I") (Jvm.Term.int (1 : Int32))) (Jvm.Term.int (2 : Int32))) (List.mem_of_getElem? (i := 28) (by decide +kernel)))
    | 2, _ => exact va_eqt (hf (Jvm.Cond.eq (Jvm.Term.elem (Jvm.Term.static "LatticeKeys$KemSet" "SECRET_NOISES" "[I") (Jvm.Term.int (2 : Int32))) (Jvm.Term.int (2 : Int32))) (List.mem_of_getElem? (i := 29) (by decide +kernel)))
    | n + 3, h => exact absurd h (by omega)) hA
  exact ⟨t, va_Zref (hts _ lt_225) (hts _ lt_7) ht hA, hT⟩
theorem le_st_7 {args : Array Value} {s : State} {A : Nat → Prop} (hA : ∀ a : Nat, a < s.heap.size → ¬ A a) (hts : ∀ w ∈ lw_tbl, w.before args s = true) (hf : ∀ w ∈ FL, w.before args s = true) : ∃ t : Nat, va_Z "LatticeKeys$KemSet" "VECTOR_BITS" "[I" (.ref t) A s s.heap ∧ va_T .int t 3 st_7 A s s.heap := by
  obtain ⟨t, ht, hT⟩ := va_Tof (args := args) (s := s) (tm := .static "LatticeKeys$KemSet" "VECTOR_BITS" "[I") (ty := .int) (N := 3) (f := st_7) (A := A) (by decide) (hf (Jvm.Cond.arrayOf (Jvm.Term.static "LatticeKeys$KemSet" "VECTOR_BITS" "[I") Jvm.ClassFile.FieldType.int) (List.mem_of_getElem? (i := 31) (by decide +kernel))) (va_eqt (hf (Jvm.Cond.eq (Jvm.Term.length (Jvm.Term.static "LatticeKeys$KemSet" "VECTOR_BITS" "[I")) (Jvm.Term.int (3 : Int32))) (List.mem_of_getElem? (i := 32) (by decide +kernel)))) (fun j hj => by
    match j, hj with
    | 0, _ => exact va_eqt (hf (Jvm.Cond.eq (Jvm.Term.elem (Jvm.Term.static "LatticeKeys$KemSet" "VECTOR_BITS" "[I") (Jvm.Term.int (0 : Int32))) (Jvm.Term.int (10 : Int32))) (List.mem_of_getElem? (i := 33) (by decide +kernel)))
    | 1, _ => exact va_eqt (hf (Jvm.Cond.eq (Jvm.Term.elem (Jvm.Term.static "LatticeKeys$KemSet" "VECTOR_BITS" "[I") (Jvm.Term.int (1 : Int32))) (Jvm.Term.int (10 : Int32))) (List.mem_of_getElem? (i := 34) (by decide +kernel)))
    | 2, _ => exact va_eqt (hf (Jvm.Cond.eq (Jvm.Term.elem (Jvm.Term.static "LatticeKeys$KemSet" "VECTOR_BITS" "[I") (Jvm.Term.int (2 : Int32))) (Jvm.Term.int (11 : Int32))) (List.mem_of_getElem? (i := 35) (by decide +kernel)))
    | n + 3, h => exact absurd h (by omega)) hA
  exact ⟨t, va_Zref (hts _ lt_227) (hts _ lt_7) ht hA, hT⟩
theorem le_st_8 {args : Array Value} {s : State} {A : Nat → Prop} (hA : ∀ a : Nat, a < s.heap.size → ¬ A a) (hts : ∀ w ∈ lw_tbl, w.before args s = true) (hf : ∀ w ∈ FL, w.before args s = true) : ∃ t : Nat, va_Z "LatticeKeys$KemSet" "VALUE_BITS" "[I" (.ref t) A s s.heap ∧ va_T .int t 3 st_8 A s s.heap := by
  obtain ⟨t, ht, hT⟩ := va_Tof (args := args) (s := s) (tm := .static "LatticeKeys$KemSet" "VALUE_BITS" "[I") (ty := .int) (N := 3) (f := st_8) (A := A) (by decide) (hf (Jvm.Cond.arrayOf (Jvm.Term.static "LatticeKeys$KemSet" "VALUE_BITS" "[I") Jvm.ClassFile.FieldType.int) (List.mem_of_getElem? (i := 37) (by decide +kernel))) (va_eqt (hf (Jvm.Cond.eq (Jvm.Term.length (Jvm.Term.static "LatticeKeys$KemSet" "VALUE_BITS" "[I")) (Jvm.Term.int (3 : Int32))) (List.mem_of_getElem? (i := 38) (by decide +kernel)))) (fun j hj => by
    match j, hj with
    | 0, _ => exact va_eqt (hf (Jvm.Cond.eq (Jvm.Term.elem (Jvm.Term.static "LatticeKeys$KemSet" "VALUE_BITS" "[I") (Jvm.Term.int (0 : Int32))) (Jvm.Term.int (4 : Int32))) (List.mem_of_getElem? (i := 39) (by decide +kernel)))
    | 1, _ => exact va_eqt (hf (Jvm.Cond.eq (Jvm.Term.elem (Jvm.Term.static "LatticeKeys$KemSet" "VALUE_BITS" "[I") (Jvm.Term.int (1 : Int32))) (Jvm.Term.int (4 : Int32))) (List.mem_of_getElem? (i := 40) (by decide +kernel)))
    | 2, _ => exact va_eqt (hf (Jvm.Cond.eq (Jvm.Term.elem (Jvm.Term.static "LatticeKeys$KemSet" "VALUE_BITS" "[I") (Jvm.Term.int (2 : Int32))) (Jvm.Term.int (5 : Int32))) (List.mem_of_getElem? (i := 41) (by decide +kernel)))
    | n + 3, h => exact absurd h (by omega)) hA
  exact ⟨t, va_Zref (hts _ lt_229) (hts _ lt_7) ht hA, hT⟩
theorem le_st_9 {args : Array Value} {s : State} {A : Nat → Prop} (hA : ∀ a : Nat, a < s.heap.size → ¬ A a) (hts : ∀ w ∈ lw_tbl, w.before args s = true) (hf : ∀ w ∈ FL, w.before args s = true) : ∃ t : Nat, va_Z "LatticeKeys$DsaSet" "ROWS" "[I" (.ref t) A s s.heap ∧ va_T .int t 3 st_9 A s s.heap := by
  obtain ⟨t, ht, hT⟩ := va_Tof (args := args) (s := s) (tm := .static "LatticeKeys$DsaSet" "ROWS" "[I") (ty := .int) (N := 3) (f := st_9) (A := A) (by decide) (hf (Jvm.Cond.arrayOf (Jvm.Term.static "LatticeKeys$DsaSet" "ROWS" "[I") Jvm.ClassFile.FieldType.int) (List.mem_of_getElem? (i := 43) (by decide +kernel))) (va_eqt (hf (Jvm.Cond.eq (Jvm.Term.length (Jvm.Term.static "LatticeKeys$DsaSet" "ROWS" "[I")) (Jvm.Term.int (3 : Int32))) (List.mem_of_getElem? (i := 44) (by decide +kernel)))) (fun j hj => by
    match j, hj with
    | 0, _ => exact va_eqt (hf (Jvm.Cond.eq (Jvm.Term.elem (Jvm.Term.static "LatticeKeys$DsaSet" "ROWS" "[I") (Jvm.Term.int (0 : Int32))) (Jvm.Term.int (4 : Int32))) (List.mem_of_getElem? (i := 45) (by decide +kernel)))
    | 1, _ => exact va_eqt (hf (Jvm.Cond.eq (Jvm.Term.elem (Jvm.Term.static "LatticeKeys$DsaSet" "ROWS" "[I") (Jvm.Term.int (1 : Int32))) (Jvm.Term.int (6 : Int32))) (List.mem_of_getElem? (i := 46) (by decide +kernel)))
    | 2, _ => exact va_eqt (hf (Jvm.Cond.eq (Jvm.Term.elem (Jvm.Term.static "LatticeKeys$DsaSet" "ROWS" "[I") (Jvm.Term.int (2 : Int32))) (Jvm.Term.int (8 : Int32))) (List.mem_of_getElem? (i := 47) (by decide +kernel)))
    | n + 3, h => exact absurd h (by omega)) hA
  exact ⟨t, va_Zref (hts _ lt_280) (hts _ lt_8) ht hA, hT⟩
theorem le_st_10 {args : Array Value} {s : State} {A : Nat → Prop} (hA : ∀ a : Nat, a < s.heap.size → ¬ A a) (hts : ∀ w ∈ lw_tbl, w.before args s = true) (hf : ∀ w ∈ FL, w.before args s = true) : ∃ t : Nat, va_Z "LatticeKeys$DsaSet" "COLUMNS" "[I" (.ref t) A s s.heap ∧ va_T .int t 3 st_10 A s s.heap := by
  obtain ⟨t, ht, hT⟩ := va_Tof (args := args) (s := s) (tm := .static "LatticeKeys$DsaSet" "COLUMNS" "[I") (ty := .int) (N := 3) (f := st_10) (A := A) (by decide) (hf (Jvm.Cond.arrayOf (Jvm.Term.static "LatticeKeys$DsaSet" "COLUMNS" "[I") Jvm.ClassFile.FieldType.int) (List.mem_of_getElem? (i := 49) (by decide +kernel))) (va_eqt (hf (Jvm.Cond.eq (Jvm.Term.length (Jvm.Term.static "LatticeKeys$DsaSet" "COLUMNS" "[I")) (Jvm.Term.int (3 : Int32))) (List.mem_of_getElem? (i := 50) (by decide +kernel)))) (fun j hj => by
    match j, hj with
    | 0, _ => exact va_eqt (hf (Jvm.Cond.eq (Jvm.Term.elem (Jvm.Term.static "LatticeKeys$DsaSet" "COLUMNS" "[I") (Jvm.Term.int (0 : Int32))) (Jvm.Term.int (4 : Int32))) (List.mem_of_getElem? (i := 51) (by decide +kernel)))
    | 1, _ => exact va_eqt (hf (Jvm.Cond.eq (Jvm.Term.elem (Jvm.Term.static "LatticeKeys$DsaSet" "COLUMNS" "[I") (Jvm.Term.int (1 : Int32))) (Jvm.Term.int (5 : Int32))) (List.mem_of_getElem? (i := 52) (by decide +kernel)))
    | 2, _ => exact va_eqt (hf (Jvm.Cond.eq (Jvm.Term.elem (Jvm.Term.static "LatticeKeys$DsaSet" "COLUMNS" "[I") (Jvm.Term.int (2 : Int32))) (Jvm.Term.int (7 : Int32))) (List.mem_of_getElem? (i := 53) (by decide +kernel)))
    | n + 3, h => exact absurd h (by omega)) hA
  exact ⟨t, va_Zref (hts _ lt_282) (hts _ lt_8) ht hA, hT⟩
theorem le_st_11 {args : Array Value} {s : State} {A : Nat → Prop} (hA : ∀ a : Nat, a < s.heap.size → ¬ A a) (hts : ∀ w ∈ lw_tbl, w.before args s = true) (hf : ∀ w ∈ FL, w.before args s = true) : ∃ t : Nat, va_Z "LatticeKeys$DsaSet" "NOISES" "[I" (.ref t) A s s.heap ∧ va_T .int t 3 st_11 A s s.heap := by
  obtain ⟨t, ht, hT⟩ := va_Tof (args := args) (s := s) (tm := .static "LatticeKeys$DsaSet" "NOISES" "[I") (ty := .int) (N := 3) (f := st_11) (A := A) (by decide) (hf (Jvm.Cond.arrayOf (Jvm.Term.static "LatticeKeys$DsaSet" "NOISES" "[I") Jvm.ClassFile.FieldType.int) (List.mem_of_getElem? (i := 55) (by decide +kernel))) (va_eqt (hf (Jvm.Cond.eq (Jvm.Term.length (Jvm.Term.static "LatticeKeys$DsaSet" "NOISES" "[I")) (Jvm.Term.int (3 : Int32))) (List.mem_of_getElem? (i := 56) (by decide +kernel)))) (fun j hj => by
    match j, hj with
    | 0, _ => exact va_eqt (hf (Jvm.Cond.eq (Jvm.Term.elem (Jvm.Term.static "LatticeKeys$DsaSet" "NOISES" "[I") (Jvm.Term.int (0 : Int32))) (Jvm.Term.int (2 : Int32))) (List.mem_of_getElem? (i := 57) (by decide +kernel)))
    | 1, _ => exact va_eqt (hf (Jvm.Cond.eq (Jvm.Term.elem (Jvm.Term.static "LatticeKeys$DsaSet" "NOISES" "[I") (Jvm.Term.int (1 : Int32))) (Jvm.Term.int (4 : Int32))) (List.mem_of_getElem? (i := 58) (by decide +kernel)))
    | 2, _ => exact va_eqt (hf (Jvm.Cond.eq (Jvm.Term.elem (Jvm.Term.static "LatticeKeys$DsaSet" "NOISES" "[I") (Jvm.Term.int (2 : Int32))) (Jvm.Term.int (2 : Int32))) (List.mem_of_getElem? (i := 59) (by decide +kernel)))
    | n + 3, h => exact absurd h (by omega)) hA
  exact ⟨t, va_Zref (hts _ lt_284) (hts _ lt_8) ht hA, hT⟩
theorem le_st_12 {args : Array Value} {s : State} {A : Nat → Prop} (hA : ∀ a : Nat, a < s.heap.size → ¬ A a) (hts : ∀ w ∈ lw_tbl, w.before args s = true) (hf : ∀ w ∈ FL, w.before args s = true) : ∃ t : Nat, va_Z "LatticeKeys$DsaSet" "NOISE_BITS" "[I" (.ref t) A s s.heap ∧ va_T .int t 3 st_12 A s s.heap := by
  obtain ⟨t, ht, hT⟩ := va_Tof (args := args) (s := s) (tm := .static "LatticeKeys$DsaSet" "NOISE_BITS" "[I") (ty := .int) (N := 3) (f := st_12) (A := A) (by decide) (hf (Jvm.Cond.arrayOf (Jvm.Term.static "LatticeKeys$DsaSet" "NOISE_BITS" "[I") Jvm.ClassFile.FieldType.int) (List.mem_of_getElem? (i := 61) (by decide +kernel))) (va_eqt (hf (Jvm.Cond.eq (Jvm.Term.length (Jvm.Term.static "LatticeKeys$DsaSet" "NOISE_BITS" "[I")) (Jvm.Term.int (3 : Int32))) (List.mem_of_getElem? (i := 62) (by decide +kernel)))) (fun j hj => by
    match j, hj with
    | 0, _ => exact va_eqt (hf (Jvm.Cond.eq (Jvm.Term.elem (Jvm.Term.static "LatticeKeys$DsaSet" "NOISE_BITS" "[I") (Jvm.Term.int (0 : Int32))) (Jvm.Term.int (3 : Int32))) (List.mem_of_getElem? (i := 63) (by decide +kernel)))
    | 1, _ => exact va_eqt (hf (Jvm.Cond.eq (Jvm.Term.elem (Jvm.Term.static "LatticeKeys$DsaSet" "NOISE_BITS" "[I") (Jvm.Term.int (1 : Int32))) (Jvm.Term.int (4 : Int32))) (List.mem_of_getElem? (i := 64) (by decide +kernel)))
    | 2, _ => exact va_eqt (hf (Jvm.Cond.eq (Jvm.Term.elem (Jvm.Term.static "LatticeKeys$DsaSet" "NOISE_BITS" "[I") (Jvm.Term.int (2 : Int32))) (Jvm.Term.int (3 : Int32))) (List.mem_of_getElem? (i := 65) (by decide +kernel)))
    | n + 3, h => exact absurd h (by omega)) hA
  exact ⟨t, va_Zref (hts _ lt_286) (hts _ lt_8) ht hA, hT⟩
theorem le_st_13 {args : Array Value} {s : State} {A : Nat → Prop} (hA : ∀ a : Nat, a < s.heap.size → ¬ A a) (hts : ∀ w ∈ lw_tbl, w.before args s = true) (hf : ∀ w ∈ FL, w.before args s = true) : ∃ t : Nat, va_Z "LatticeKeys$DsaSet" "ONES" "[I" (.ref t) A s s.heap ∧ va_T .int t 3 st_13 A s s.heap := by
  obtain ⟨t, ht, hT⟩ := va_Tof (args := args) (s := s) (tm := .static "LatticeKeys$DsaSet" "ONES" "[I") (ty := .int) (N := 3) (f := st_13) (A := A) (by decide) (hf (Jvm.Cond.arrayOf (Jvm.Term.static "LatticeKeys$DsaSet" "ONES" "[I") Jvm.ClassFile.FieldType.int) (List.mem_of_getElem? (i := 67) (by decide +kernel))) (va_eqt (hf (Jvm.Cond.eq (Jvm.Term.length (Jvm.Term.static "LatticeKeys$DsaSet" "ONES" "[I")) (Jvm.Term.int (3 : Int32))) (List.mem_of_getElem? (i := 68) (by decide +kernel)))) (fun j hj => by
    match j, hj with
    | 0, _ => exact va_eqt (hf (Jvm.Cond.eq (Jvm.Term.elem (Jvm.Term.static "LatticeKeys$DsaSet" "ONES" "[I") (Jvm.Term.int (0 : Int32))) (Jvm.Term.int (39 : Int32))) (List.mem_of_getElem? (i := 69) (by decide +kernel)))
    | 1, _ => exact va_eqt (hf (Jvm.Cond.eq (Jvm.Term.elem (Jvm.Term.static "LatticeKeys$DsaSet" "ONES" "[I") (Jvm.Term.int (1 : Int32))) (Jvm.Term.int (49 : Int32))) (List.mem_of_getElem? (i := 70) (by decide +kernel)))
    | 2, _ => exact va_eqt (hf (Jvm.Cond.eq (Jvm.Term.elem (Jvm.Term.static "LatticeKeys$DsaSet" "ONES" "[I") (Jvm.Term.int (2 : Int32))) (Jvm.Term.int (60 : Int32))) (List.mem_of_getElem? (i := 71) (by decide +kernel)))
    | n + 3, h => exact absurd h (by omega)) hA
  exact ⟨t, va_Zref (hts _ lt_288) (hts _ lt_8) ht hA, hT⟩
theorem le_st_14 {args : Array Value} {s : State} {A : Nat → Prop} (hA : ∀ a : Nat, a < s.heap.size → ¬ A a) (hts : ∀ w ∈ lw_tbl, w.before args s = true) (hf : ∀ w ∈ FL, w.before args s = true) : ∃ t : Nat, va_Z "LatticeKeys$DsaSet" "CHALLENGE_LENGTHS" "[I" (.ref t) A s s.heap ∧ va_T .int t 3 st_14 A s s.heap := by
  obtain ⟨t, ht, hT⟩ := va_Tof (args := args) (s := s) (tm := .static "LatticeKeys$DsaSet" "CHALLENGE_LENGTHS" "[I") (ty := .int) (N := 3) (f := st_14) (A := A) (by decide) (hf (Jvm.Cond.arrayOf (Jvm.Term.static "LatticeKeys$DsaSet" "CHALLENGE_LENGTHS" "[I") Jvm.ClassFile.FieldType.int) (List.mem_of_getElem? (i := 73) (by decide +kernel))) (va_eqt (hf (Jvm.Cond.eq (Jvm.Term.length (Jvm.Term.static "LatticeKeys$DsaSet" "CHALLENGE_LENGTHS" "[I")) (Jvm.Term.int (3 : Int32))) (List.mem_of_getElem? (i := 74) (by decide +kernel)))) (fun j hj => by
    match j, hj with
    | 0, _ => exact va_eqt (hf (Jvm.Cond.eq (Jvm.Term.elem (Jvm.Term.static "LatticeKeys$DsaSet" "CHALLENGE_LENGTHS" "[I") (Jvm.Term.int (0 : Int32))) (Jvm.Term.int (32 : Int32))) (List.mem_of_getElem? (i := 75) (by decide +kernel)))
    | 1, _ => exact va_eqt (hf (Jvm.Cond.eq (Jvm.Term.elem (Jvm.Term.static "LatticeKeys$DsaSet" "CHALLENGE_LENGTHS" "[I") (Jvm.Term.int (1 : Int32))) (Jvm.Term.int (48 : Int32))) (List.mem_of_getElem? (i := 76) (by decide +kernel)))
    | 2, _ => exact va_eqt (hf (Jvm.Cond.eq (Jvm.Term.elem (Jvm.Term.static "LatticeKeys$DsaSet" "CHALLENGE_LENGTHS" "[I") (Jvm.Term.int (2 : Int32))) (Jvm.Term.int (64 : Int32))) (List.mem_of_getElem? (i := 77) (by decide +kernel)))
    | n + 3, h => exact absurd h (by omega)) hA
  exact ⟨t, va_Zref (hts _ lt_290) (hts _ lt_8) ht hA, hT⟩
theorem le_st_15 {args : Array Value} {s : State} {A : Nat → Prop} (hA : ∀ a : Nat, a < s.heap.size → ¬ A a) (hts : ∀ w ∈ lw_tbl, w.before args s = true) (hf : ∀ w ∈ FL, w.before args s = true) : ∃ t : Nat, va_Z "LatticeKeys$DsaSet" "MASK_BITS" "[I" (.ref t) A s s.heap ∧ va_T .int t 3 st_15 A s s.heap := by
  obtain ⟨t, ht, hT⟩ := va_Tof (args := args) (s := s) (tm := .static "LatticeKeys$DsaSet" "MASK_BITS" "[I") (ty := .int) (N := 3) (f := st_15) (A := A) (by decide) (hf (Jvm.Cond.arrayOf (Jvm.Term.static "LatticeKeys$DsaSet" "MASK_BITS" "[I") Jvm.ClassFile.FieldType.int) (List.mem_of_getElem? (i := 79) (by decide +kernel))) (va_eqt (hf (Jvm.Cond.eq (Jvm.Term.length (Jvm.Term.static "LatticeKeys$DsaSet" "MASK_BITS" "[I")) (Jvm.Term.int (3 : Int32))) (List.mem_of_getElem? (i := 80) (by decide +kernel)))) (fun j hj => by
    match j, hj with
    | 0, _ => exact va_eqt (hf (Jvm.Cond.eq (Jvm.Term.elem (Jvm.Term.static "LatticeKeys$DsaSet" "MASK_BITS" "[I") (Jvm.Term.int (0 : Int32))) (Jvm.Term.int (18 : Int32))) (List.mem_of_getElem? (i := 81) (by decide +kernel)))
    | 1, _ => exact va_eqt (hf (Jvm.Cond.eq (Jvm.Term.elem (Jvm.Term.static "LatticeKeys$DsaSet" "MASK_BITS" "[I") (Jvm.Term.int (1 : Int32))) (Jvm.Term.int (20 : Int32))) (List.mem_of_getElem? (i := 82) (by decide +kernel)))
    | 2, _ => exact va_eqt (hf (Jvm.Cond.eq (Jvm.Term.elem (Jvm.Term.static "LatticeKeys$DsaSet" "MASK_BITS" "[I") (Jvm.Term.int (2 : Int32))) (Jvm.Term.int (20 : Int32))) (List.mem_of_getElem? (i := 83) (by decide +kernel)))
    | n + 3, h => exact absurd h (by omega)) hA
  exact ⟨t, va_Zref (hts _ lt_292) (hts _ lt_8) ht hA, hT⟩
theorem le_st_16 {args : Array Value} {s : State} {A : Nat → Prop} (hA : ∀ a : Nat, a < s.heap.size → ¬ A a) (hts : ∀ w ∈ lw_tbl, w.before args s = true) (hf : ∀ w ∈ FL, w.before args s = true) : ∃ t : Nat, va_Z "LatticeKeys$DsaSet" "STEPS" "[I" (.ref t) A s s.heap ∧ va_T .int t 3 st_16 A s s.heap := by
  obtain ⟨t, ht, hT⟩ := va_Tof (args := args) (s := s) (tm := .static "LatticeKeys$DsaSet" "STEPS" "[I") (ty := .int) (N := 3) (f := st_16) (A := A) (by decide) (hf (Jvm.Cond.arrayOf (Jvm.Term.static "LatticeKeys$DsaSet" "STEPS" "[I") Jvm.ClassFile.FieldType.int) (List.mem_of_getElem? (i := 85) (by decide +kernel))) (va_eqt (hf (Jvm.Cond.eq (Jvm.Term.length (Jvm.Term.static "LatticeKeys$DsaSet" "STEPS" "[I")) (Jvm.Term.int (3 : Int32))) (List.mem_of_getElem? (i := 86) (by decide +kernel)))) (fun j hj => by
    match j, hj with
    | 0, _ => exact va_eqt (hf (Jvm.Cond.eq (Jvm.Term.elem (Jvm.Term.static "LatticeKeys$DsaSet" "STEPS" "[I") (Jvm.Term.int (0 : Int32))) (Jvm.Term.int (44 : Int32))) (List.mem_of_getElem? (i := 87) (by decide +kernel)))
    | 1, _ => exact va_eqt (hf (Jvm.Cond.eq (Jvm.Term.elem (Jvm.Term.static "LatticeKeys$DsaSet" "STEPS" "[I") (Jvm.Term.int (1 : Int32))) (Jvm.Term.int (16 : Int32))) (List.mem_of_getElem? (i := 88) (by decide +kernel)))
    | 2, _ => exact va_eqt (hf (Jvm.Cond.eq (Jvm.Term.elem (Jvm.Term.static "LatticeKeys$DsaSet" "STEPS" "[I") (Jvm.Term.int (2 : Int32))) (Jvm.Term.int (16 : Int32))) (List.mem_of_getElem? (i := 89) (by decide +kernel)))
    | n + 3, h => exact absurd h (by omega)) hA
  exact ⟨t, va_Zref (hts _ lt_294) (hts _ lt_8) ht hA, hT⟩
theorem le_st_17 {args : Array Value} {s : State} {A : Nat → Prop} (hA : ∀ a : Nat, a < s.heap.size → ¬ A a) (hts : ∀ w ∈ lw_tbl, w.before args s = true) (hf : ∀ w ∈ FL, w.before args s = true) : ∃ t : Nat, va_Z "LatticeKeys$DsaSet" "STEP_BITS" "[I" (.ref t) A s s.heap ∧ va_T .int t 3 st_17 A s s.heap := by
  obtain ⟨t, ht, hT⟩ := va_Tof (args := args) (s := s) (tm := .static "LatticeKeys$DsaSet" "STEP_BITS" "[I") (ty := .int) (N := 3) (f := st_17) (A := A) (by decide) (hf (Jvm.Cond.arrayOf (Jvm.Term.static "LatticeKeys$DsaSet" "STEP_BITS" "[I") Jvm.ClassFile.FieldType.int) (List.mem_of_getElem? (i := 91) (by decide +kernel))) (va_eqt (hf (Jvm.Cond.eq (Jvm.Term.length (Jvm.Term.static "LatticeKeys$DsaSet" "STEP_BITS" "[I")) (Jvm.Term.int (3 : Int32))) (List.mem_of_getElem? (i := 92) (by decide +kernel)))) (fun j hj => by
    match j, hj with
    | 0, _ => exact va_eqt (hf (Jvm.Cond.eq (Jvm.Term.elem (Jvm.Term.static "LatticeKeys$DsaSet" "STEP_BITS" "[I") (Jvm.Term.int (0 : Int32))) (Jvm.Term.int (6 : Int32))) (List.mem_of_getElem? (i := 93) (by decide +kernel)))
    | 1, _ => exact va_eqt (hf (Jvm.Cond.eq (Jvm.Term.elem (Jvm.Term.static "LatticeKeys$DsaSet" "STEP_BITS" "[I") (Jvm.Term.int (1 : Int32))) (Jvm.Term.int (4 : Int32))) (List.mem_of_getElem? (i := 94) (by decide +kernel)))
    | 2, _ => exact va_eqt (hf (Jvm.Cond.eq (Jvm.Term.elem (Jvm.Term.static "LatticeKeys$DsaSet" "STEP_BITS" "[I") (Jvm.Term.int (2 : Int32))) (Jvm.Term.int (4 : Int32))) (List.mem_of_getElem? (i := 95) (by decide +kernel)))
    | n + 3, h => exact absurd h (by omega)) hA
  exact ⟨t, va_Zref (hts _ lt_296) (hts _ lt_8) ht hA, hT⟩
theorem le_st_18 {args : Array Value} {s : State} {A : Nat → Prop} (hA : ∀ a : Nat, a < s.heap.size → ¬ A a) (hts : ∀ w ∈ lw_tbl, w.before args s = true) (hf : ∀ w ∈ FL, w.before args s = true) : ∃ t : Nat, va_Z "LatticeKeys$DsaSet" "MOST_HINTS" "[I" (.ref t) A s s.heap ∧ va_T .int t 3 st_18 A s s.heap := by
  obtain ⟨t, ht, hT⟩ := va_Tof (args := args) (s := s) (tm := .static "LatticeKeys$DsaSet" "MOST_HINTS" "[I") (ty := .int) (N := 3) (f := st_18) (A := A) (by decide) (hf (Jvm.Cond.arrayOf (Jvm.Term.static "LatticeKeys$DsaSet" "MOST_HINTS" "[I") Jvm.ClassFile.FieldType.int) (List.mem_of_getElem? (i := 97) (by decide +kernel))) (va_eqt (hf (Jvm.Cond.eq (Jvm.Term.length (Jvm.Term.static "LatticeKeys$DsaSet" "MOST_HINTS" "[I")) (Jvm.Term.int (3 : Int32))) (List.mem_of_getElem? (i := 98) (by decide +kernel)))) (fun j hj => by
    match j, hj with
    | 0, _ => exact va_eqt (hf (Jvm.Cond.eq (Jvm.Term.elem (Jvm.Term.static "LatticeKeys$DsaSet" "MOST_HINTS" "[I") (Jvm.Term.int (0 : Int32))) (Jvm.Term.int (80 : Int32))) (List.mem_of_getElem? (i := 99) (by decide +kernel)))
    | 1, _ => exact va_eqt (hf (Jvm.Cond.eq (Jvm.Term.elem (Jvm.Term.static "LatticeKeys$DsaSet" "MOST_HINTS" "[I") (Jvm.Term.int (1 : Int32))) (Jvm.Term.int (55 : Int32))) (List.mem_of_getElem? (i := 100) (by decide +kernel)))
    | 2, _ => exact va_eqt (hf (Jvm.Cond.eq (Jvm.Term.elem (Jvm.Term.static "LatticeKeys$DsaSet" "MOST_HINTS" "[I") (Jvm.Term.int (2 : Int32))) (Jvm.Term.int (75 : Int32))) (List.mem_of_getElem? (i := 101) (by decide +kernel)))
    | n + 3, h => exact absurd h (by omega)) hA
  exact ⟨t, va_Zref (hts _ lt_299) (hts _ lt_8) ht hA, hT⟩
theorem le_st_19 {args : Array Value} {s : State} {A : Nat → Prop} (hA : ∀ a : Nat, a < s.heap.size → ¬ A a) (hts : ∀ w ∈ lw_tbl, w.before args s = true) (hf : ∀ w ∈ FL, w.before args s = true) : ∃ t : Nat, va_Z "LatticeKeysModel$Secrets" "K" "[I" (.ref t) A s s.heap ∧ va_T .int t 3 st_19 A s s.heap := by
  obtain ⟨t, ht, hT⟩ := va_Tof (args := args) (s := s) (tm := .static "LatticeKeysModel$Secrets" "K" "[I") (ty := .int) (N := 3) (f := st_19) (A := A) (by decide) (hf (Jvm.Cond.arrayOf (Jvm.Term.static "LatticeKeysModel$Secrets" "K" "[I") Jvm.ClassFile.FieldType.int) (List.mem_of_getElem? (i := 397) (by decide +kernel))) (va_eqt (hf (Jvm.Cond.eq (Jvm.Term.length (Jvm.Term.static "LatticeKeysModel$Secrets" "K" "[I")) (Jvm.Term.int (3 : Int32))) (List.mem_of_getElem? (i := 398) (by decide +kernel)))) (fun j hj => by
    match j, hj with
    | 0, _ => exact va_eqt (hf (Jvm.Cond.eq (Jvm.Term.elem (Jvm.Term.static "LatticeKeysModel$Secrets" "K" "[I") (Jvm.Term.int (0 : Int32))) (Jvm.Term.int (2 : Int32))) (List.mem_of_getElem? (i := 399) (by decide +kernel)))
    | 1, _ => exact va_eqt (hf (Jvm.Cond.eq (Jvm.Term.elem (Jvm.Term.static "LatticeKeysModel$Secrets" "K" "[I") (Jvm.Term.int (1 : Int32))) (Jvm.Term.int (3 : Int32))) (List.mem_of_getElem? (i := 400) (by decide +kernel)))
    | 2, _ => exact va_eqt (hf (Jvm.Cond.eq (Jvm.Term.elem (Jvm.Term.static "LatticeKeysModel$Secrets" "K" "[I") (Jvm.Term.int (2 : Int32))) (Jvm.Term.int (4 : Int32))) (List.mem_of_getElem? (i := 401) (by decide +kernel)))
    | n + 3, h => exact absurd h (by omega)) hA
  exact ⟨t, va_Zref (hts _ lt_1606) (hts _ lt_11) ht hA, hT⟩
theorem le_st_20 {args : Array Value} {s : State} {A : Nat → Prop} (hA : ∀ a : Nat, a < s.heap.size → ¬ A a) (hts : ∀ w ∈ lw_tbl, w.before args s = true) (hf : ∀ w ∈ FL, w.before args s = true) : ∃ t : Nat, va_Z "LatticeKeysModel$Secrets" "ETA" "[I" (.ref t) A s s.heap ∧ va_T .int t 3 st_20 A s s.heap := by
  obtain ⟨t, ht, hT⟩ := va_Tof (args := args) (s := s) (tm := .static "LatticeKeysModel$Secrets" "ETA" "[I") (ty := .int) (N := 3) (f := st_20) (A := A) (by decide) (hf (Jvm.Cond.arrayOf (Jvm.Term.static "LatticeKeysModel$Secrets" "ETA" "[I") Jvm.ClassFile.FieldType.int) (List.mem_of_getElem? (i := 403) (by decide +kernel))) (va_eqt (hf (Jvm.Cond.eq (Jvm.Term.length (Jvm.Term.static "LatticeKeysModel$Secrets" "ETA" "[I")) (Jvm.Term.int (3 : Int32))) (List.mem_of_getElem? (i := 404) (by decide +kernel)))) (fun j hj => by
    match j, hj with
    | 0, _ => exact va_eqt (hf (Jvm.Cond.eq (Jvm.Term.elem (Jvm.Term.static "LatticeKeysModel$Secrets" "ETA" "[I") (Jvm.Term.int (0 : Int32))) (Jvm.Term.int (3 : Int32))) (List.mem_of_getElem? (i := 405) (by decide +kernel)))
    | 1, _ => exact va_eqt (hf (Jvm.Cond.eq (Jvm.Term.elem (Jvm.Term.static "LatticeKeysModel$Secrets" "ETA" "[I") (Jvm.Term.int (1 : Int32))) (Jvm.Term.int (2 : Int32))) (List.mem_of_getElem? (i := 406) (by decide +kernel)))
    | 2, _ => exact va_eqt (hf (Jvm.Cond.eq (Jvm.Term.elem (Jvm.Term.static "LatticeKeysModel$Secrets" "ETA" "[I") (Jvm.Term.int (2 : Int32))) (Jvm.Term.int (2 : Int32))) (List.mem_of_getElem? (i := 407) (by decide +kernel)))
    | n + 3, h => exact absurd h (by omega)) hA
  exact ⟨t, va_Zref (hts _ lt_1655) (hts _ lt_11) ht hA, hT⟩
theorem le_st_21 {args : Array Value} {s : State} {A : Nat → Prop} (hA : ∀ a : Nat, a < s.heap.size → ¬ A a) (hts : ∀ w ∈ lw_tbl, w.before args s = true) (hf : ∀ w ∈ FL, w.before args s = true) : ∃ t : Nat, va_Z "LatticeKeysModel$Secrets" "DU" "[I" (.ref t) A s s.heap ∧ va_T .int t 3 st_21 A s s.heap := by
  obtain ⟨t, ht, hT⟩ := va_Tof (args := args) (s := s) (tm := .static "LatticeKeysModel$Secrets" "DU" "[I") (ty := .int) (N := 3) (f := st_21) (A := A) (by decide) (hf (Jvm.Cond.arrayOf (Jvm.Term.static "LatticeKeysModel$Secrets" "DU" "[I") Jvm.ClassFile.FieldType.int) (List.mem_of_getElem? (i := 433) (by decide +kernel))) (va_eqt (hf (Jvm.Cond.eq (Jvm.Term.length (Jvm.Term.static "LatticeKeysModel$Secrets" "DU" "[I")) (Jvm.Term.int (3 : Int32))) (List.mem_of_getElem? (i := 434) (by decide +kernel)))) (fun j hj => by
    match j, hj with
    | 0, _ => exact va_eqt (hf (Jvm.Cond.eq (Jvm.Term.elem (Jvm.Term.static "LatticeKeysModel$Secrets" "DU" "[I") (Jvm.Term.int (0 : Int32))) (Jvm.Term.int (10 : Int32))) (List.mem_of_getElem? (i := 435) (by decide +kernel)))
    | 1, _ => exact va_eqt (hf (Jvm.Cond.eq (Jvm.Term.elem (Jvm.Term.static "LatticeKeysModel$Secrets" "DU" "[I") (Jvm.Term.int (1 : Int32))) (Jvm.Term.int (10 : Int32))) (List.mem_of_getElem? (i := 436) (by decide +kernel)))
    | 2, _ => exact va_eqt (hf (Jvm.Cond.eq (Jvm.Term.elem (Jvm.Term.static "LatticeKeysModel$Secrets" "DU" "[I") (Jvm.Term.int (2 : Int32))) (Jvm.Term.int (11 : Int32))) (List.mem_of_getElem? (i := 437) (by decide +kernel)))
    | n + 3, h => exact absurd h (by omega)) hA
  exact ⟨t, va_Zref (hts _ lt_1831) (hts _ lt_11) ht hA, hT⟩
theorem le_st_22 {args : Array Value} {s : State} {A : Nat → Prop} (hA : ∀ a : Nat, a < s.heap.size → ¬ A a) (hts : ∀ w ∈ lw_tbl, w.before args s = true) (hf : ∀ w ∈ FL, w.before args s = true) : ∃ t : Nat, va_Z "LatticeKeysModel$Secrets" "DV" "[I" (.ref t) A s s.heap ∧ va_T .int t 3 st_22 A s s.heap := by
  obtain ⟨t, ht, hT⟩ := va_Tof (args := args) (s := s) (tm := .static "LatticeKeysModel$Secrets" "DV" "[I") (ty := .int) (N := 3) (f := st_22) (A := A) (by decide) (hf (Jvm.Cond.arrayOf (Jvm.Term.static "LatticeKeysModel$Secrets" "DV" "[I") Jvm.ClassFile.FieldType.int) (List.mem_of_getElem? (i := 439) (by decide +kernel))) (va_eqt (hf (Jvm.Cond.eq (Jvm.Term.length (Jvm.Term.static "LatticeKeysModel$Secrets" "DV" "[I")) (Jvm.Term.int (3 : Int32))) (List.mem_of_getElem? (i := 440) (by decide +kernel)))) (fun j hj => by
    match j, hj with
    | 0, _ => exact va_eqt (hf (Jvm.Cond.eq (Jvm.Term.elem (Jvm.Term.static "LatticeKeysModel$Secrets" "DV" "[I") (Jvm.Term.int (0 : Int32))) (Jvm.Term.int (4 : Int32))) (List.mem_of_getElem? (i := 441) (by decide +kernel)))
    | 1, _ => exact va_eqt (hf (Jvm.Cond.eq (Jvm.Term.elem (Jvm.Term.static "LatticeKeysModel$Secrets" "DV" "[I") (Jvm.Term.int (1 : Int32))) (Jvm.Term.int (4 : Int32))) (List.mem_of_getElem? (i := 442) (by decide +kernel)))
    | 2, _ => exact va_eqt (hf (Jvm.Cond.eq (Jvm.Term.elem (Jvm.Term.static "LatticeKeysModel$Secrets" "DV" "[I") (Jvm.Term.int (2 : Int32))) (Jvm.Term.int (5 : Int32))) (List.mem_of_getElem? (i := 443) (by decide +kernel)))
    | n + 3, h => exact absurd h (by omega)) hA
  exact ⟨t, va_Zref (hts _ lt_1839) (hts _ lt_11) ht hA, hT⟩
theorem le_st_23 {args : Array Value} {s : State} {A : Nat → Prop} (hA : ∀ a : Nat, a < s.heap.size → ¬ A a) (hts : ∀ w ∈ lw_tbl, w.before args s = true) (hf : ∀ w ∈ FL, w.before args s = true) : ∃ t : Nat, va_Z "LatticeKeysModel$Hands" "K" "[I" (.ref t) A s s.heap ∧ va_T .int t 3 st_23 A s s.heap := by
  obtain ⟨t, ht, hT⟩ := va_Tof (args := args) (s := s) (tm := .static "LatticeKeysModel$Hands" "K" "[I") (ty := .int) (N := 3) (f := st_23) (A := A) (by decide) (hf (Jvm.Cond.arrayOf (Jvm.Term.static "LatticeKeysModel$Hands" "K" "[I") Jvm.ClassFile.FieldType.int) (List.mem_of_getElem? (i := 409) (by decide +kernel))) (va_eqt (hf (Jvm.Cond.eq (Jvm.Term.length (Jvm.Term.static "LatticeKeysModel$Hands" "K" "[I")) (Jvm.Term.int (3 : Int32))) (List.mem_of_getElem? (i := 410) (by decide +kernel)))) (fun j hj => by
    match j, hj with
    | 0, _ => exact va_eqt (hf (Jvm.Cond.eq (Jvm.Term.elem (Jvm.Term.static "LatticeKeysModel$Hands" "K" "[I") (Jvm.Term.int (0 : Int32))) (Jvm.Term.int (4 : Int32))) (List.mem_of_getElem? (i := 411) (by decide +kernel)))
    | 1, _ => exact va_eqt (hf (Jvm.Cond.eq (Jvm.Term.elem (Jvm.Term.static "LatticeKeysModel$Hands" "K" "[I") (Jvm.Term.int (1 : Int32))) (Jvm.Term.int (6 : Int32))) (List.mem_of_getElem? (i := 412) (by decide +kernel)))
    | 2, _ => exact va_eqt (hf (Jvm.Cond.eq (Jvm.Term.elem (Jvm.Term.static "LatticeKeysModel$Hands" "K" "[I") (Jvm.Term.int (2 : Int32))) (Jvm.Term.int (8 : Int32))) (List.mem_of_getElem? (i := 413) (by decide +kernel)))
    | n + 3, h => exact absurd h (by omega)) hA
  exact ⟨t, va_Zref (hts _ lt_1707) (hts _ lt_13) ht hA, hT⟩
theorem le_st_24 {args : Array Value} {s : State} {A : Nat → Prop} (hA : ∀ a : Nat, a < s.heap.size → ¬ A a) (hts : ∀ w ∈ lw_tbl, w.before args s = true) (hf : ∀ w ∈ FL, w.before args s = true) : ∃ t : Nat, va_Z "LatticeKeysModel$Hands" "L" "[I" (.ref t) A s s.heap ∧ va_T .int t 3 st_24 A s s.heap := by
  obtain ⟨t, ht, hT⟩ := va_Tof (args := args) (s := s) (tm := .static "LatticeKeysModel$Hands" "L" "[I") (ty := .int) (N := 3) (f := st_24) (A := A) (by decide) (hf (Jvm.Cond.arrayOf (Jvm.Term.static "LatticeKeysModel$Hands" "L" "[I") Jvm.ClassFile.FieldType.int) (List.mem_of_getElem? (i := 415) (by decide +kernel))) (va_eqt (hf (Jvm.Cond.eq (Jvm.Term.length (Jvm.Term.static "LatticeKeysModel$Hands" "L" "[I")) (Jvm.Term.int (3 : Int32))) (List.mem_of_getElem? (i := 416) (by decide +kernel)))) (fun j hj => by
    match j, hj with
    | 0, _ => exact va_eqt (hf (Jvm.Cond.eq (Jvm.Term.elem (Jvm.Term.static "LatticeKeysModel$Hands" "L" "[I") (Jvm.Term.int (0 : Int32))) (Jvm.Term.int (4 : Int32))) (List.mem_of_getElem? (i := 417) (by decide +kernel)))
    | 1, _ => exact va_eqt (hf (Jvm.Cond.eq (Jvm.Term.elem (Jvm.Term.static "LatticeKeysModel$Hands" "L" "[I") (Jvm.Term.int (1 : Int32))) (Jvm.Term.int (5 : Int32))) (List.mem_of_getElem? (i := 418) (by decide +kernel)))
    | 2, _ => exact va_eqt (hf (Jvm.Cond.eq (Jvm.Term.elem (Jvm.Term.static "LatticeKeysModel$Hands" "L" "[I") (Jvm.Term.int (2 : Int32))) (Jvm.Term.int (7 : Int32))) (List.mem_of_getElem? (i := 419) (by decide +kernel)))
    | n + 3, h => exact absurd h (by omega)) hA
  exact ⟨t, va_Zref (hts _ lt_1709) (hts _ lt_13) ht hA, hT⟩
theorem le_st_25 {args : Array Value} {s : State} {A : Nat → Prop} (hA : ∀ a : Nat, a < s.heap.size → ¬ A a) (hts : ∀ w ∈ lw_tbl, w.before args s = true) (hf : ∀ w ∈ FL, w.before args s = true) : ∃ t : Nat, va_Z "LatticeKeysModel$Hands" "ETA" "[I" (.ref t) A s s.heap ∧ va_T .int t 3 st_25 A s s.heap := by
  obtain ⟨t, ht, hT⟩ := va_Tof (args := args) (s := s) (tm := .static "LatticeKeysModel$Hands" "ETA" "[I") (ty := .int) (N := 3) (f := st_25) (A := A) (by decide) (hf (Jvm.Cond.arrayOf (Jvm.Term.static "LatticeKeysModel$Hands" "ETA" "[I") Jvm.ClassFile.FieldType.int) (List.mem_of_getElem? (i := 421) (by decide +kernel))) (va_eqt (hf (Jvm.Cond.eq (Jvm.Term.length (Jvm.Term.static "LatticeKeysModel$Hands" "ETA" "[I")) (Jvm.Term.int (3 : Int32))) (List.mem_of_getElem? (i := 422) (by decide +kernel)))) (fun j hj => by
    match j, hj with
    | 0, _ => exact va_eqt (hf (Jvm.Cond.eq (Jvm.Term.elem (Jvm.Term.static "LatticeKeysModel$Hands" "ETA" "[I") (Jvm.Term.int (0 : Int32))) (Jvm.Term.int (2 : Int32))) (List.mem_of_getElem? (i := 423) (by decide +kernel)))
    | 1, _ => exact va_eqt (hf (Jvm.Cond.eq (Jvm.Term.elem (Jvm.Term.static "LatticeKeysModel$Hands" "ETA" "[I") (Jvm.Term.int (1 : Int32))) (Jvm.Term.int (4 : Int32))) (List.mem_of_getElem? (i := 424) (by decide +kernel)))
    | 2, _ => exact va_eqt (hf (Jvm.Cond.eq (Jvm.Term.elem (Jvm.Term.static "LatticeKeysModel$Hands" "ETA" "[I") (Jvm.Term.int (2 : Int32))) (Jvm.Term.int (2 : Int32))) (List.mem_of_getElem? (i := 425) (by decide +kernel)))
    | n + 3, h => exact absurd h (by omega)) hA
  exact ⟨t, va_Zref (hts _ lt_1711) (hts _ lt_13) ht hA, hT⟩
theorem le_st_26 {args : Array Value} {s : State} {A : Nat → Prop} (hA : ∀ a : Nat, a < s.heap.size → ¬ A a) (hts : ∀ w ∈ lw_tbl, w.before args s = true) (hf : ∀ w ∈ FL, w.before args s = true) : ∃ t : Nat, va_Z "LatticeKeysModel$Hands" "TAU" "[I" (.ref t) A s s.heap ∧ va_T .int t 3 st_26 A s s.heap := by
  obtain ⟨t, ht, hT⟩ := va_Tof (args := args) (s := s) (tm := .static "LatticeKeysModel$Hands" "TAU" "[I") (ty := .int) (N := 3) (f := st_26) (A := A) (by decide) (hf (Jvm.Cond.arrayOf (Jvm.Term.static "LatticeKeysModel$Hands" "TAU" "[I") Jvm.ClassFile.FieldType.int) (List.mem_of_getElem? (i := 427) (by decide +kernel))) (va_eqt (hf (Jvm.Cond.eq (Jvm.Term.length (Jvm.Term.static "LatticeKeysModel$Hands" "TAU" "[I")) (Jvm.Term.int (3 : Int32))) (List.mem_of_getElem? (i := 428) (by decide +kernel)))) (fun j hj => by
    match j, hj with
    | 0, _ => exact va_eqt (hf (Jvm.Cond.eq (Jvm.Term.elem (Jvm.Term.static "LatticeKeysModel$Hands" "TAU" "[I") (Jvm.Term.int (0 : Int32))) (Jvm.Term.int (39 : Int32))) (List.mem_of_getElem? (i := 429) (by decide +kernel)))
    | 1, _ => exact va_eqt (hf (Jvm.Cond.eq (Jvm.Term.elem (Jvm.Term.static "LatticeKeysModel$Hands" "TAU" "[I") (Jvm.Term.int (1 : Int32))) (Jvm.Term.int (49 : Int32))) (List.mem_of_getElem? (i := 430) (by decide +kernel)))
    | 2, _ => exact va_eqt (hf (Jvm.Cond.eq (Jvm.Term.elem (Jvm.Term.static "LatticeKeysModel$Hands" "TAU" "[I") (Jvm.Term.int (2 : Int32))) (Jvm.Term.int (60 : Int32))) (List.mem_of_getElem? (i := 431) (by decide +kernel)))
    | n + 3, h => exact absurd h (by omega)) hA
  exact ⟨t, va_Zref (hts _ lt_1717) (hts _ lt_13) ht hA, hT⟩
theorem le_st_27 {args : Array Value} {s : State} {A : Nat → Prop} (hA : ∀ a : Nat, a < s.heap.size → ¬ A a) (hts : ∀ w ∈ lw_tbl, w.before args s = true) (hf : ∀ w ∈ FL, w.before args s = true) : ∃ t : Nat, va_Z "LatticeKeysModel$Hands" "OMEGA" "[I" (.ref t) A s s.heap ∧ va_T .int t 3 st_27 A s s.heap := by
  obtain ⟨t, ht, hT⟩ := va_Tof (args := args) (s := s) (tm := .static "LatticeKeysModel$Hands" "OMEGA" "[I") (ty := .int) (N := 3) (f := st_27) (A := A) (by decide) (hf (Jvm.Cond.arrayOf (Jvm.Term.static "LatticeKeysModel$Hands" "OMEGA" "[I") Jvm.ClassFile.FieldType.int) (List.mem_of_getElem? (i := 445) (by decide +kernel))) (va_eqt (hf (Jvm.Cond.eq (Jvm.Term.length (Jvm.Term.static "LatticeKeysModel$Hands" "OMEGA" "[I")) (Jvm.Term.int (3 : Int32))) (List.mem_of_getElem? (i := 446) (by decide +kernel)))) (fun j hj => by
    match j, hj with
    | 0, _ => exact va_eqt (hf (Jvm.Cond.eq (Jvm.Term.elem (Jvm.Term.static "LatticeKeysModel$Hands" "OMEGA" "[I") (Jvm.Term.int (0 : Int32))) (Jvm.Term.int (80 : Int32))) (List.mem_of_getElem? (i := 447) (by decide +kernel)))
    | 1, _ => exact va_eqt (hf (Jvm.Cond.eq (Jvm.Term.elem (Jvm.Term.static "LatticeKeysModel$Hands" "OMEGA" "[I") (Jvm.Term.int (1 : Int32))) (Jvm.Term.int (55 : Int32))) (List.mem_of_getElem? (i := 448) (by decide +kernel)))
    | 2, _ => exact va_eqt (hf (Jvm.Cond.eq (Jvm.Term.elem (Jvm.Term.static "LatticeKeysModel$Hands" "OMEGA" "[I") (Jvm.Term.int (2 : Int32))) (Jvm.Term.int (75 : Int32))) (List.mem_of_getElem? (i := 449) (by decide +kernel)))
    | n + 3, h => exact absurd h (by omega)) hA
  exact ⟨t, va_Zref (hts _ lt_1913) (hts _ lt_13) ht hA, hT⟩
theorem le_str_0 {args : Array Value} {s : State} (hts : ∀ w ∈ lw_tbl, w.before args s = true) (hf : ∀ w ∈ FL, w.before args s = true) : ∃ a : Nat, vk_R "LatticeKeys" 71 "no room on the tape" a s := by
  obtain ⟨a, -, -, -, h, -⟩ := Cond.exactly_spec (hf (Jvm.Cond.exactly (Jvm.Term.string "LatticeKeys" (71 : Nat)) "java/lang/String") (List.mem_of_getElem? (i := 550) (by decide +kernel)))
  exact ⟨a, vk_R.of (hts _ lt_463) h⟩
theorem le_str_1 {args : Array Value} {s : State} (hts : ∀ w ∈ lw_tbl, w.before args s = true) (hf : ∀ w ∈ FL, w.before args s = true) : ∃ a : Nat, vk_R "LatticeKeys" 81 "the tape is not so long" a s := by
  obtain ⟨a, -, -, -, h, -⟩ := Cond.exactly_spec (hf (Jvm.Cond.exactly (Jvm.Term.string "LatticeKeys" (81 : Nat)) "java/lang/String") (List.mem_of_getElem? (i := 573) (by decide +kernel)))
  exact ⟨a, vk_R.of (hts _ lt_510) h⟩
theorem le_str_2 {args : Array Value} {s : State} (hts : ∀ w ∈ lw_tbl, w.before args s = true) (hf : ∀ w ∈ FL, w.before args s = true) : ∃ a : Nat, vk_R "LatticeKeys" 92 "no such byte on the tape" a s := by
  obtain ⟨a, -, -, -, h, -⟩ := Cond.exactly_spec (hf (Jvm.Cond.exactly (Jvm.Term.string "LatticeKeys" (92 : Nat)) "java/lang/String") (List.mem_of_getElem? (i := 601) (by decide +kernel)))
  exact ⟨a, vk_R.of (hts _ lt_544) h⟩
theorem le_str_3 {args : Array Value} {s : State} (hts : ∀ w ∈ lw_tbl, w.before args s = true) (hf : ∀ w ∈ FL, w.before args s = true) : ∃ a : Nat, vk_R "LatticeKeys" 103 "no such set, or a seed of another length" a s := by
  obtain ⟨a, -, -, -, h, -⟩ := Cond.exactly_spec (hf (Jvm.Cond.exactly (Jvm.Term.string "LatticeKeys" (103 : Nat)) "java/lang/String") (List.mem_of_getElem? (i := 631) (by decide +kernel)))
  exact ⟨a, vk_R.of (hts _ lt_564) h⟩
theorem le_str_4 {args : Array Value} {s : State} (hts : ∀ w ∈ lw_tbl, w.before args s = true) (hf : ∀ w ∈ FL, w.before args s = true) : ∃ a : Nat, vk_R "LatticeKeys" 105 "no room for more keys" a s := by
  obtain ⟨a, -, -, -, h, -⟩ := Cond.exactly_spec (hf (Jvm.Cond.exactly (Jvm.Term.string "LatticeKeys" (105 : Nat)) "java/lang/String") (List.mem_of_getElem? (i := 678) (by decide +kernel)))
  exact ⟨a, vk_R.of (hts _ lt_565) h⟩
theorem le_str_5 {args : Array Value} {s : State} (hts : ∀ w ∈ lw_tbl, w.before args s = true) (hf : ∀ w ∈ FL, w.before args s = true) : ∃ a : Nat, vk_R "LatticeKeys" 131 "no such set or part, or another length" a s := by
  obtain ⟨a, -, -, -, h, -⟩ := Cond.exactly_spec (hf (Jvm.Cond.exactly (Jvm.Term.string "LatticeKeys" (131 : Nat)) "java/lang/String") (List.mem_of_getElem? (i := 707) (by decide +kernel)))
  exact ⟨a, vk_R.of (hts _ lt_776) h⟩
theorem le_str_6 {args : Array Value} {s : State} (hts : ∀ w ∈ lw_tbl, w.before args s = true) (hf : ∀ w ∈ FL, w.before args s = true) : ∃ a : Nat, vk_R "LatticeKeys" 139 "the check of the key fails" a s := by
  obtain ⟨a, -, -, -, h, -⟩ := Cond.exactly_spec (hf (Jvm.Cond.exactly (Jvm.Term.string "LatticeKeys" (139 : Nat)) "java/lang/String") (List.mem_of_getElem? (i := 754) (by decide +kernel)))
  exact ⟨a, vk_R.of (hts _ lt_798) h⟩
theorem le_str_7 {args : Array Value} {s : State} (hts : ∀ w ∈ lw_tbl, w.before args s = true) (hf : ∀ w ∈ FL, w.before args s = true) : ∃ a : Nat, vk_R "LatticeKeys" 158 "no such keys or part" a s := by
  obtain ⟨a, -, -, -, h, -⟩ := Cond.exactly_spec (hf (Jvm.Cond.exactly (Jvm.Term.string "LatticeKeys" (158 : Nat)) "java/lang/String") (List.mem_of_getElem? (i := 804) (by decide +kernel)))
  exact ⟨a, vk_R.of (hts _ lt_1073) h⟩
theorem le_str_8 {args : Array Value} {s : State} (hts : ∀ w ∈ lw_tbl, w.before args s = true) (hf : ∀ w ∈ FL, w.before args s = true) : ∃ a : Nat, vk_R "LatticeKeys" 161 "no such byte in the part" a s := by
  obtain ⟨a, -, -, -, h, -⟩ := Cond.exactly_spec (hf (Jvm.Cond.exactly (Jvm.Term.string "LatticeKeys" (161 : Nat)) "java/lang/String") (List.mem_of_getElem? (i := 836) (by decide +kernel)))
  exact ⟨a, vk_R.of (hts _ lt_1080) h⟩
theorem le_str_9 {args : Array Value} {s : State} (hts : ∀ w ∈ lw_tbl, w.before args s = true) (hf : ∀ w ∈ FL, w.before args s = true) : ∃ a : Nat, vk_R "LatticeKeys" 166 "no such keys" a s := by
  obtain ⟨a, -, -, -, h, -⟩ := Cond.exactly_spec (hf (Jvm.Cond.exactly (Jvm.Term.string "LatticeKeys" (166 : Nat)) "java/lang/String") (List.mem_of_getElem? (i := 873) (by decide +kernel)))
  exact ⟨a, vk_R.of (hts _ lt_1095) h⟩
theorem le_str_10 {args : Array Value} {s : State} (hts : ∀ w ∈ lw_tbl, w.before args s = true) (hf : ∀ w ∈ FL, w.before args s = true) : ∃ a : Nat, vk_R "LatticeKeys" 177 "nothing of that number is told" a s := by
  obtain ⟨a, -, -, -, h, -⟩ := Cond.exactly_spec (hf (Jvm.Cond.exactly (Jvm.Term.string "LatticeKeys" (177 : Nat)) "java/lang/String") (List.mem_of_getElem? (i := 899) (by decide +kernel)))
  exact ⟨a, vk_R.of (hts _ lt_1096) h⟩
theorem le_str_11 {args : Array Value} {s : State} (hts : ∀ w ∈ lw_tbl, w.before args s = true) (hf : ∀ w ∈ FL, w.before args s = true) : ∃ a : Nat, vk_R "LatticeKeys" 182 "no such keys of ML-KEM" a s := by
  obtain ⟨a, -, -, -, h, -⟩ := Cond.exactly_spec (hf (Jvm.Cond.exactly (Jvm.Term.string "LatticeKeys" (182 : Nat)) "java/lang/String") (List.mem_of_getElem? (i := 944) (by decide +kernel)))
  exact ⟨a, vk_R.of (hts _ lt_1108) h⟩
theorem le_str_12 {args : Array Value} {s : State} (hts : ∀ w ∈ lw_tbl, w.before args s = true) (hf : ∀ w ∈ FL, w.before args s = true) : ∃ a : Nat, vk_R "LatticeKeys" 184 "the tape is not 32 bytes long" a s := by
  obtain ⟨a, -, -, -, h, -⟩ := Cond.exactly_spec (hf (Jvm.Cond.exactly (Jvm.Term.string "LatticeKeys" (184 : Nat)) "java/lang/String") (List.mem_of_getElem? (i := 982) (by decide +kernel)))
  exact ⟨a, vk_R.of (hts _ lt_1109) h⟩
theorem le_str_13 {args : Array Value} {s : State} (hts : ∀ w ∈ lw_tbl, w.before args s = true) (hf : ∀ w ∈ FL, w.before args s = true) : ∃ a : Nat, vk_R "LatticeKeys" 192 "no such keys of ML-KEM with a secret part" a s := by
  obtain ⟨a, -, -, -, h, -⟩ := Cond.exactly_spec (hf (Jvm.Cond.exactly (Jvm.Term.string "LatticeKeys" (192 : Nat)) "java/lang/String") (List.mem_of_getElem? (i := 1028) (by decide +kernel)))
  exact ⟨a, vk_R.of (hts _ lt_1144) h⟩
theorem le_str_14 {args : Array Value} {s : State} (hts : ∀ w ∈ lw_tbl, w.before args s = true) (hf : ∀ w ∈ FL, w.before args s = true) : ∃ a : Nat, vk_R "LatticeKeys" 194 "the tape is not as long as a ciphertext" a s := by
  obtain ⟨a, -, -, -, h, -⟩ := Cond.exactly_spec (hf (Jvm.Cond.exactly (Jvm.Term.string "LatticeKeys" (194 : Nat)) "java/lang/String") (List.mem_of_getElem? (i := 1087) (by decide +kernel)))
  exact ⟨a, vk_R.of (hts _ lt_1145) h⟩
theorem le_str_15 {args : Array Value} {s : State} (hts : ∀ w ∈ lw_tbl, w.before args s = true) (hf : ∀ w ∈ FL, w.before args s = true) : ∃ a : Nat, vk_R "LatticeKeys" 203 "no such keys of ML-DSA with a secret part" a s := by
  obtain ⟨a, -, -, -, h, -⟩ := Cond.exactly_spec (hf (Jvm.Cond.exactly (Jvm.Term.string "LatticeKeys" (203 : Nat)) "java/lang/String") (List.mem_of_getElem? (i := 1145) (by decide +kernel)))
  exact ⟨a, vk_R.of (hts _ lt_1169) h⟩
theorem le_str_16 {args : Array Value} {s : State} (hts : ∀ w ∈ lw_tbl, w.before args s = true) (hf : ∀ w ∈ FL, w.before args s = true) : ∃ a : Nat, vk_R "LatticeKeys" 209 "a context of another length, or a short tape" a s := by
  obtain ⟨a, -, -, -, h, -⟩ := Cond.exactly_spec (hf (Jvm.Cond.exactly (Jvm.Term.string "LatticeKeys" (209 : Nat)) "java/lang/String") (List.mem_of_getElem? (i := 1206) (by decide +kernel)))
  exact ⟨a, vk_R.of (hts _ lt_1174) h⟩
theorem le_str_17 {args : Array Value} {s : State} (hts : ∀ w ∈ lw_tbl, w.before args s = true) (hf : ∀ w ∈ FL, w.before args s = true) : ∃ a : Nat, vk_R "LatticeKeys" 215 "no signature was found in time" a s := by
  obtain ⟨a, -, -, -, h, -⟩ := Cond.exactly_spec (hf (Jvm.Cond.exactly (Jvm.Term.string "LatticeKeys" (215 : Nat)) "java/lang/String") (List.mem_of_getElem? (i := 1271) (by decide +kernel)))
  exact ⟨a, vk_R.of (hts _ lt_1252) h⟩
theorem le_str_18 {args : Array Value} {s : State} (hts : ∀ w ∈ lw_tbl, w.before args s = true) (hf : ∀ w ∈ FL, w.before args s = true) : ∃ a : Nat, vk_R "LatticeKeys" 220 "no such keys of ML-DSA" a s := by
  obtain ⟨a, -, -, -, h, -⟩ := Cond.exactly_spec (hf (Jvm.Cond.exactly (Jvm.Term.string "LatticeKeys" (220 : Nat)) "java/lang/String") (List.mem_of_getElem? (i := 1323) (by decide +kernel)))
  exact ⟨a, vk_R.of (hts _ lt_1260) h⟩
theorem le_str_19 {args : Array Value} {s : State} (hts : ∀ w ∈ lw_tbl, w.before args s = true) (hf : ∀ w ∈ FL, w.before args s = true) : ∃ a : Nat, vk_R "LatticeKeys" 226 "no such hash or length" a s := by
  obtain ⟨a, -, -, -, h, -⟩ := Cond.exactly_spec (hf (Jvm.Cond.exactly (Jvm.Term.string "LatticeKeys" (226 : Nat)) "java/lang/String") (List.mem_of_getElem? (i := 1368) (by decide +kernel)))
  exact ⟨a, vk_R.of (hts _ lt_1298) h⟩
theorem le_str_20 {args : Array Value} {s : State} (hts : ∀ w ∈ lw_tbl, w.before args s = true) (hf : ∀ w ∈ FL, w.before args s = true) : ∃ a : Nat, vk_R "LatticeKeys" 241 "no such byte in the result" a s := by
  obtain ⟨a, -, -, -, h, -⟩ := Cond.exactly_spec (hf (Jvm.Cond.exactly (Jvm.Term.string "LatticeKeys" (241 : Nat)) "java/lang/String") (List.mem_of_getElem? (i := 1414) (by decide +kernel)))
  exact ⟨a, vk_R.of (hts _ lt_1310) h⟩
theorem le_zq {args : Array Value} {s : State} {A : Nat → Prop} {n d : String} (hA : ∀ a : Nat, a < s.heap.size → ¬ A a) (hl : (Cond.laysStatic Bundle.tN n d).before args s = true) (hr : (Cond.isRef (.static Bundle.tN n d)).before args s = true) : zq n d A s s.heap := by
  obtain ⟨c, k, i, f, a, cell, hc, hi, hst, ha, hcell, hs, hcls, hlt, hty⟩ := Cond.laysStatic_spec hl
  obtain ⟨v, hv, hvr⟩ := Cond.isRef_spec hr
  obtain ⟨-, a', cell', ha', hcell', -, hslot⟩ := Term.static_spec hi hv
  cases ha.symm.trans ha'
  cases hcell.symm.trans hcell'
  have ho : ∃ q : Option Nat, v = va_rf q := by
    cases v with
    | null => exact ⟨none, rfl⟩
    | ref x => exact ⟨some x, rfl⟩
    | _ => cases hvr
  obtain ⟨q, rfl⟩ := ho
  exact ⟨c, k, i, f, a, cell, q, hc, hi, hst, ha, hcell, hs, hcls, hlt, hty, hslot, hA a (Array.getElem?_eq_some_iff.mp hcell).1⟩
theorem le_cast {args : Array Value} {s : State} {A : Nat → Prop} (hA : ∀ a : Nat, a < s.heap.size → ¬ A a) (hts : ∀ w ∈ lw_tbl, w.before args s = true) (hf : ∀ w ∈ FL, w.before args s = true) : ∀ X ∈ exl, va_Nw (.castable X X) s := by
  intro X hX
  simp only [exl, List.mem_cons, List.not_mem_nil, or_false] at hX
  rcases hX with rfl | rfl | rfl | rfl | rfl
  · exact va_Nw.of rfl (hts _ lt_503)
  · exact va_Nw.of rfl (hts _ lt_537)
  · exact va_Nw.of rfl (hts _ lt_1066)
  · exact va_Nw.of rfl (hts _ lt_422)
  · exact va_Nw.of rfl (hts _ lt_791)
theorem le_ncs {args : Array Value} {s : State} {A : Nat → Prop} (hA : ∀ a : Nat, a < s.heap.size → ¬ A a) (hts : ∀ w ∈ lw_tbl, w.before args s = true) (hf : ∀ w ∈ FL, w.before args s = true) : ∀ q ∈ ncs, va_Nc q.1 q.2 s := by
  intro q hq
  simp only [ncs, List.mem_cons, List.not_mem_nil, or_false] at hq
  rcases hq with rfl | rfl | rfl | rfl | rfl | rfl
  · exact va_Nc.of (hf (Jvm.Cond.not (Jvm.Cond.castable "java/lang/IllegalStateException" "java/lang/IllegalArgumentException")) (List.mem_of_getElem? (i := 483) (by decide +kernel)))
  · exact va_Nc.of (hf (Jvm.Cond.not (Jvm.Cond.castable "java/lang/UnsupportedOperationException" "java/lang/IllegalArgumentException")) (List.mem_of_getElem? (i := 486) (by decide +kernel)))
  · exact va_Nc.of (hf (Jvm.Cond.not (Jvm.Cond.castable "java/lang/IllegalStateException" "java/lang/UnsupportedOperationException")) (List.mem_of_getElem? (i := 523) (by decide +kernel)))
  · exact va_Nc.of (hf (Jvm.Cond.not (Jvm.Cond.castable "java/lang/IndexOutOfBoundsException" "java/util/NoSuchElementException")) (List.mem_of_getElem? (i := 545) (by decide +kernel)))
  · exact va_Nc.of (hf (Jvm.Cond.not (Jvm.Cond.castable "java/lang/IllegalArgumentException" "java/util/NoSuchElementException")) (List.mem_of_getElem? (i := 544) (by decide +kernel)))
  · exact va_Nc.of (hf (Jvm.Cond.not (Jvm.Cond.castable "java/lang/IllegalStateException" "java/util/NoSuchElementException")) (List.mem_of_getElem? (i := 543) (by decide +kernel)))
set_option maxRecDepth 100000 in
theorem le_env {args : Array Value} {s : State} {A : Nat → Prop} (hA : ∀ a : Nat, a < s.heap.size → ¬ A a) (hts : ∀ w ∈ lw_tbl, w.before args s = true) (hf : ∀ w ∈ FL, w.before args s = true) : ∃ g : Gd, ex g A s s.heap := by
  obtain ⟨D, hD⟩ := le_cls hts
  obtain ⟨c, hc⟩ := le_arrs hts
  obtain ⟨t0, z0⟩ := le_st_0 hA hts hf
  obtain ⟨t1, z1⟩ := le_st_1 hA hts hf
  obtain ⟨t2, z2⟩ := le_st_2 hA hts hf
  obtain ⟨t3, z3⟩ := le_st_3 hA hts hf
  obtain ⟨t4, z4⟩ := le_st_4 hA hts hf
  obtain ⟨t5, z5⟩ := le_st_5 hA hts hf
  obtain ⟨t6, z6⟩ := le_st_6 hA hts hf
  obtain ⟨t7, z7⟩ := le_st_7 hA hts hf
  obtain ⟨t8, z8⟩ := le_st_8 hA hts hf
  obtain ⟨t9, z9⟩ := le_st_9 hA hts hf
  obtain ⟨t10, z10⟩ := le_st_10 hA hts hf
  obtain ⟨t11, z11⟩ := le_st_11 hA hts hf
  obtain ⟨t12, z12⟩ := le_st_12 hA hts hf
  obtain ⟨t13, z13⟩ := le_st_13 hA hts hf
  obtain ⟨t14, z14⟩ := le_st_14 hA hts hf
  obtain ⟨t15, z15⟩ := le_st_15 hA hts hf
  obtain ⟨t16, z16⟩ := le_st_16 hA hts hf
  obtain ⟨t17, z17⟩ := le_st_17 hA hts hf
  obtain ⟨t18, z18⟩ := le_st_18 hA hts hf
  obtain ⟨t19, z19⟩ := le_st_19 hA hts hf
  obtain ⟨t20, z20⟩ := le_st_20 hA hts hf
  obtain ⟨t21, z21⟩ := le_st_21 hA hts hf
  obtain ⟨t22, z22⟩ := le_st_22 hA hts hf
  obtain ⟨t23, z23⟩ := le_st_23 hA hts hf
  obtain ⟨t24, z24⟩ := le_st_24 hA hts hf
  obtain ⟨t25, z25⟩ := le_st_25 hA hts hf
  obtain ⟨t26, z26⟩ := le_st_26 hA hts hf
  obtain ⟨t27, z27⟩ := le_st_27 hA hts hf
  obtain ⟨r0, y0⟩ := le_str_0 hts hf
  obtain ⟨r1, y1⟩ := le_str_1 hts hf
  obtain ⟨r2, y2⟩ := le_str_2 hts hf
  obtain ⟨r3, y3⟩ := le_str_3 hts hf
  obtain ⟨r4, y4⟩ := le_str_4 hts hf
  obtain ⟨r5, y5⟩ := le_str_5 hts hf
  obtain ⟨r6, y6⟩ := le_str_6 hts hf
  obtain ⟨r7, y7⟩ := le_str_7 hts hf
  obtain ⟨r8, y8⟩ := le_str_8 hts hf
  obtain ⟨r9, y9⟩ := le_str_9 hts hf
  obtain ⟨r10, y10⟩ := le_str_10 hts hf
  obtain ⟨r11, y11⟩ := le_str_11 hts hf
  obtain ⟨r12, y12⟩ := le_str_12 hts hf
  obtain ⟨r13, y13⟩ := le_str_13 hts hf
  obtain ⟨r14, y14⟩ := le_str_14 hts hf
  obtain ⟨r15, y15⟩ := le_str_15 hts hf
  obtain ⟨r16, y16⟩ := le_str_16 hts hf
  obtain ⟨r17, y17⟩ := le_str_17 hts hf
  obtain ⟨r18, y18⟩ := le_str_18 hts hf
  obtain ⟨r19, y19⟩ := le_str_19 hts hf
  obtain ⟨r20, y20⟩ := le_str_20 hts hf
  refine ⟨(D, c, fun k => match k with | 0 => t0 | 1 => t1 | 2 => t2 | 3 => t3 | 4 => t4 | 5 => t5 | 6 => t6 | 7 => t7 | 8 => t8 | 9 => t9 | 10 => t10 | 11 => t11 | 12 => t12 | 13 => t13 | 14 => t14 | 15 => t15 | 16 => t16 | 17 => t17 | 18 => t18 | 19 => t19 | 20 => t20 | 21 => t21 | 22 => t22 | 23 => t23 | 24 => t24 | 25 => t25 | 26 => t26 | 27 => t27 | 100 => r0 | 101 => r1 | 102 => r2 | 103 => r3 | 104 => r4 | 105 => r5 | 106 => r6 | 107 => r7 | 108 => r8 | 109 => r9 | 110 => r10 | 111 => r11 | 112 => r12 | 113 => r13 | 114 => r14 | 115 => r15 | 116 => r16 | 117 => r17 | 118 => r18 | 119 => r19 | 120 => r20 | _ => 0), ⟨⟨hD, hc⟩, ?_, va_AO.of (hts _ lt_44), va_AO.of (hts _ lt_46), va_AO.of (hts _ lt_48), (hts _ lt_106), (hts _ lt_1318), ⟨va_Nw.of rfl (hts _ lt_1665), va_Nw.of rfl (hts _ lt_1688), va_Nw.of rfl (hts _ lt_1743), va_Nw.of rfl (hts _ lt_1864)⟩⟩, va_Nw.of rfl (hts _ lt_424), va_Nw.of rfl (hts _ lt_426), va_Nw.of rfl (hts _ lt_428), le_cast hA hts hf, ?_, (le_zq hA (hts _ lt_447) (hf (Jvm.Cond.isRef (Jvm.Term.static "java/lang/Throwable" "UNASSIGNED_STACK" "[Ljava/lang/StackTraceElement;")) (List.mem_of_getElem? (i := 102) (by decide +kernel)))), (le_zq hA (hts _ lt_449) (hf (Jvm.Cond.isRef (Jvm.Term.static "java/lang/Throwable" "SUPPRESSED_SENTINEL" "Ljava/util/List;")) (List.mem_of_getElem? (i := 103) (by decide +kernel)))), le_ncs hA hts hf⟩
  · intro k q hq
    match k, hq with
    | 0, hq => have e : some (("LatticeKeys$Sponge", "RATES", "[I", .int, 4, st_0) : stT) = some q := hq; cases e; exact z0
    | 1, hq => have e : some (("LatticeKeys$Sponge", "SUFFIXES", "[I", .int, 4, st_1) : stT) = some q := hq; cases e; exact z1
    | 2, hq => have e : some (("LatticeKeys$Sponge", "ROUND_CONSTANTS", "[J", .long, 24, st_2) : stT) = some q := hq; cases e; exact z2
    | 3, hq => have e : some (("LatticeKeys$Sponge", "PLACES", "[I", .int, 24, st_3) : stT) = some q := hq; cases e; exact z3
    | 4, hq => have e : some (("LatticeKeys$Sponge", "TURNS", "[I", .int, 24, st_4) : stT) = some q := hq; cases e; exact z4
    | 5, hq => have e : some (("LatticeKeys$KemSet", "RANKS", "[I", .int, 3, st_5) : stT) = some q := hq; cases e; exact z5
    | 6, hq => have e : some (("LatticeKeys$KemSet", "SECRET_NOISES", "[I", .int, 3, st_6) : stT) = some q := hq; cases e; exact z6
    | 7, hq => have e : some (("LatticeKeys$KemSet", "VECTOR_BITS", "[I", .int, 3, st_7) : stT) = some q := hq; cases e; exact z7
    | 8, hq => have e : some (("LatticeKeys$KemSet", "VALUE_BITS", "[I", .int, 3, st_8) : stT) = some q := hq; cases e; exact z8
    | 9, hq => have e : some (("LatticeKeys$DsaSet", "ROWS", "[I", .int, 3, st_9) : stT) = some q := hq; cases e; exact z9
    | 10, hq => have e : some (("LatticeKeys$DsaSet", "COLUMNS", "[I", .int, 3, st_10) : stT) = some q := hq; cases e; exact z10
    | 11, hq => have e : some (("LatticeKeys$DsaSet", "NOISES", "[I", .int, 3, st_11) : stT) = some q := hq; cases e; exact z11
    | 12, hq => have e : some (("LatticeKeys$DsaSet", "NOISE_BITS", "[I", .int, 3, st_12) : stT) = some q := hq; cases e; exact z12
    | 13, hq => have e : some (("LatticeKeys$DsaSet", "ONES", "[I", .int, 3, st_13) : stT) = some q := hq; cases e; exact z13
    | 14, hq => have e : some (("LatticeKeys$DsaSet", "CHALLENGE_LENGTHS", "[I", .int, 3, st_14) : stT) = some q := hq; cases e; exact z14
    | 15, hq => have e : some (("LatticeKeys$DsaSet", "MASK_BITS", "[I", .int, 3, st_15) : stT) = some q := hq; cases e; exact z15
    | 16, hq => have e : some (("LatticeKeys$DsaSet", "STEPS", "[I", .int, 3, st_16) : stT) = some q := hq; cases e; exact z16
    | 17, hq => have e : some (("LatticeKeys$DsaSet", "STEP_BITS", "[I", .int, 3, st_17) : stT) = some q := hq; cases e; exact z17
    | 18, hq => have e : some (("LatticeKeys$DsaSet", "MOST_HINTS", "[I", .int, 3, st_18) : stT) = some q := hq; cases e; exact z18
    | 19, hq => have e : some (("LatticeKeysModel$Secrets", "K", "[I", .int, 3, st_19) : stT) = some q := hq; cases e; exact z19
    | 20, hq => have e : some (("LatticeKeysModel$Secrets", "ETA", "[I", .int, 3, st_20) : stT) = some q := hq; cases e; exact z20
    | 21, hq => have e : some (("LatticeKeysModel$Secrets", "DU", "[I", .int, 3, st_21) : stT) = some q := hq; cases e; exact z21
    | 22, hq => have e : some (("LatticeKeysModel$Secrets", "DV", "[I", .int, 3, st_22) : stT) = some q := hq; cases e; exact z22
    | 23, hq => have e : some (("LatticeKeysModel$Hands", "K", "[I", .int, 3, st_23) : stT) = some q := hq; cases e; exact z23
    | 24, hq => have e : some (("LatticeKeysModel$Hands", "L", "[I", .int, 3, st_24) : stT) = some q := hq; cases e; exact z24
    | 25, hq => have e : some (("LatticeKeysModel$Hands", "ETA", "[I", .int, 3, st_25) : stT) = some q := hq; cases e; exact z25
    | 26, hq => have e : some (("LatticeKeysModel$Hands", "TAU", "[I", .int, 3, st_26) : stT) = some q := hq; cases e; exact z26
    | 27, hq => have e : some (("LatticeKeysModel$Hands", "OMEGA", "[I", .int, 3, st_27) : stT) = some q := hq; cases e; exact z27
    | n + 28, hq => have e : (none : Option stT) = some q := hq; cases e
  · intro k q hq
    match k, hq with
    | 0, hq => have e : some (("LatticeKeys", 71, "no room on the tape") : String × Nat × String) = some q := hq; cases e; exact y0
    | 1, hq => have e : some (("LatticeKeys", 81, "the tape is not so long") : String × Nat × String) = some q := hq; cases e; exact y1
    | 2, hq => have e : some (("LatticeKeys", 92, "no such byte on the tape") : String × Nat × String) = some q := hq; cases e; exact y2
    | 3, hq => have e : some (("LatticeKeys", 103, "no such set, or a seed of another length") : String × Nat × String) = some q := hq; cases e; exact y3
    | 4, hq => have e : some (("LatticeKeys", 105, "no room for more keys") : String × Nat × String) = some q := hq; cases e; exact y4
    | 5, hq => have e : some (("LatticeKeys", 131, "no such set or part, or another length") : String × Nat × String) = some q := hq; cases e; exact y5
    | 6, hq => have e : some (("LatticeKeys", 139, "the check of the key fails") : String × Nat × String) = some q := hq; cases e; exact y6
    | 7, hq => have e : some (("LatticeKeys", 158, "no such keys or part") : String × Nat × String) = some q := hq; cases e; exact y7
    | 8, hq => have e : some (("LatticeKeys", 161, "no such byte in the part") : String × Nat × String) = some q := hq; cases e; exact y8
    | 9, hq => have e : some (("LatticeKeys", 166, "no such keys") : String × Nat × String) = some q := hq; cases e; exact y9
    | 10, hq => have e : some (("LatticeKeys", 177, "nothing of that number is told") : String × Nat × String) = some q := hq; cases e; exact y10
    | 11, hq => have e : some (("LatticeKeys", 182, "no such keys of ML-KEM") : String × Nat × String) = some q := hq; cases e; exact y11
    | 12, hq => have e : some (("LatticeKeys", 184, "the tape is not 32 bytes long") : String × Nat × String) = some q := hq; cases e; exact y12
    | 13, hq => have e : some (("LatticeKeys", 192, "no such keys of ML-KEM with a secret part") : String × Nat × String) = some q := hq; cases e; exact y13
    | 14, hq => have e : some (("LatticeKeys", 194, "the tape is not as long as a ciphertext") : String × Nat × String) = some q := hq; cases e; exact y14
    | 15, hq => have e : some (("LatticeKeys", 203, "no such keys of ML-DSA with a secret part") : String × Nat × String) = some q := hq; cases e; exact y15
    | 16, hq => have e : some (("LatticeKeys", 209, "a context of another length, or a short tape") : String × Nat × String) = some q := hq; cases e; exact y16
    | 17, hq => have e : some (("LatticeKeys", 215, "no signature was found in time") : String × Nat × String) = some q := hq; cases e; exact y17
    | 18, hq => have e : some (("LatticeKeys", 220, "no such keys of ML-DSA") : String × Nat × String) = some q := hq; cases e; exact y18
    | 19, hq => have e : some (("LatticeKeys", 226, "no such hash or length") : String × Nat × String) = some q := hq; cases e; exact y19
    | 20, hq => have e : some (("LatticeKeys", 241, "no such byte in the result") : String × Nat × String) = some q := hq; cases e; exact y20
    | n + 21, hq => have e : (none : Option (String × Nat × String)) = some q := hq; cases e
