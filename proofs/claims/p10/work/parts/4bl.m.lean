set_option linter.all false
abbrev c_M_load : ByteArray := prog_12_method_15_code
abbrev y_M_load : MethodName := ⟨"LatticeKeysModel", "load", "(IZ)I"⟩
abbrev w_M_load : List Cond := Cond.code y_M_load c_M_load 5 (some .int) :: WG
theorem dM_load_0 : decode c_M_load 0 = .ok (.aload_n 0, 1) := by decide +kernel
theorem dM_load_1 : decode c_M_load 1 = .ok (.iconst 0, 1) := by decide +kernel
theorem dM_load_2 : decode c_M_load 2 = .ok (.putfield 57, 3) := by decide +kernel
theorem dM_load_5 : decode c_M_load 5 = .ok (.iload_n 1, 1) := by decide +kernel
theorem dM_load_6 : decode c_M_load 6 = .ok (.ifCond .lt 38, 3) := by decide +kernel
theorem dM_load_9 : decode c_M_load 9 = .ok (.iload_n 1, 1) := by decide +kernel
theorem dM_load_10 : decode c_M_load 10 = .ok (.iload_n 2, 1) := by decide +kernel
theorem dM_load_11 : decode c_M_load 11 = .ok (.ifCond .eq 7, 3) := by decide +kernel
theorem dM_load_14 : decode c_M_load 14 = .ok (.iconst 2, 1) := by decide +kernel
theorem dM_load_15 : decode c_M_load 15 = .ok (.goto 4, 3) := by decide +kernel
theorem dM_load_18 : decode c_M_load 18 = .ok (.iconst 5, 1) := by decide +kernel
theorem dM_load_19 : decode c_M_load 19 = .ok (.if_icmp .gt 25, 3) := by decide +kernel
theorem dM_load_22 : decode c_M_load 22 = .ok (.aload_n 0, 1) := by decide +kernel
theorem dM_load_23 : decode c_M_load 23 = .ok (.getfield 70, 3) := by decide +kernel
theorem dM_load_26 : decode c_M_load 26 = .ok (.iload_n 2, 1) := by decide +kernel
theorem dM_load_27 : decode c_M_load 27 = .ok (.ifCond .eq 10, 3) := by decide +kernel
theorem dM_load_30 : decode c_M_load 30 = .ok (.iload_n 1, 1) := by decide +kernel
theorem dM_load_31 : decode c_M_load 31 = .ok (.invokestatic 90, 3) := by decide +kernel
theorem dM_load_34 : decode c_M_load 34 = .ok (.goto 7, 3) := by decide +kernel
theorem dM_load_37 : decode c_M_load 37 = .ok (.iload_n 1, 1) := by decide +kernel
theorem dM_load_38 : decode c_M_load 38 = .ok (.invokestatic 95, 3) := by decide +kernel
theorem dM_load_41 : decode c_M_load 41 = .ok (.if_icmp .eq 9, 3) := by decide +kernel
theorem dM_load_44 : decode c_M_load 44 = .ok (.aload_n 0, 1) := by decide +kernel
theorem dM_load_45 : decode c_M_load 45 = .ok (.iconst 1, 1) := by decide +kernel
theorem dM_load_46 : decode c_M_load 46 = .ok (.invokevirtual 73, 3) := by decide +kernel
theorem dM_load_49 : decode c_M_load 49 = .ok (.ireturn, 1) := by decide +kernel
theorem dM_load_50 : decode c_M_load 50 = .ok (.iload_n 1, 1) := by decide +kernel
theorem dM_load_51 : decode c_M_load 51 = .ok (.iconst 3, 1) := by decide +kernel
theorem dM_load_52 : decode c_M_load 52 = .ok (.if_icmp .ge 46, 3) := by decide +kernel
theorem dM_load_55 : decode c_M_load 55 = .ok (.iload_n 2, 1) := by decide +kernel
theorem dM_load_56 : decode c_M_load 56 = .ok (.ifCond .eq 21, 3) := by decide +kernel
theorem dM_load_59 : decode c_M_load 59 = .ok (.aload_n 0, 1) := by decide +kernel
theorem dM_load_60 : decode c_M_load 60 = .ok (.getfield 46, 3) := by decide +kernel
theorem dM_load_63 : decode c_M_load 63 = .ok (.iload_n 1, 1) := by decide +kernel
theorem dM_load_64 : decode c_M_load 64 = .ok (.aload_n 0, 1) := by decide +kernel
theorem dM_load_65 : decode c_M_load 65 = .ok (.getfield 7, 3) := by decide +kernel
theorem dM_load_68 : decode c_M_load 68 = .ok (.invokevirtual 96, 3) := by decide +kernel
theorem dM_load_71 : decode c_M_load 71 = .ok (.ifCond .eq 21, 3) := by decide +kernel
theorem dM_load_74 : decode c_M_load 74 = .ok (.goto 24, 3) := by decide +kernel
theorem dM_load_77 : decode c_M_load 77 = .ok (.aload_n 0, 1) := by decide +kernel
theorem dM_load_78 : decode c_M_load 78 = .ok (.getfield 46, 3) := by decide +kernel
theorem dM_load_81 : decode c_M_load 81 = .ok (.iload_n 1, 1) := by decide +kernel
theorem dM_load_82 : decode c_M_load 82 = .ok (.aload_n 0, 1) := by decide +kernel
theorem dM_load_83 : decode c_M_load 83 = .ok (.getfield 7, 3) := by decide +kernel
theorem dM_load_86 : decode c_M_load 86 = .ok (.invokevirtual 100, 3) := by decide +kernel
theorem dM_load_89 : decode c_M_load 89 = .ok (.ifCond .ne 9, 3) := by decide +kernel
theorem dM_load_92 : decode c_M_load 92 = .ok (.aload_n 0, 1) := by decide +kernel
theorem dM_load_93 : decode c_M_load 93 = .ok (.iconst 2, 1) := by decide +kernel
theorem dM_load_94 : decode c_M_load 94 = .ok (.invokevirtual 73, 3) := by decide +kernel
theorem dM_load_97 : decode c_M_load 97 = .ok (.ireturn, 1) := by decide +kernel
theorem dM_load_98 : decode c_M_load 98 = .ok (.aload_n 0, 1) := by decide +kernel
theorem dM_load_99 : decode c_M_load 99 = .ok (.getfield 83, 3) := by decide +kernel
theorem dM_load_102 : decode c_M_load 102 = .ok (.bipush 8, 2) := by decide +kernel
theorem dM_load_104 : decode c_M_load 104 = .ok (.if_icmp .ne 9, 3) := by decide +kernel
theorem dM_load_107 : decode c_M_load 107 = .ok (.aload_n 0, 1) := by decide +kernel
theorem dM_load_108 : decode c_M_load 108 = .ok (.iconst 3, 1) := by decide +kernel
theorem dM_load_109 : decode c_M_load 109 = .ok (.invokevirtual 73, 3) := by decide +kernel
theorem dM_load_112 : decode c_M_load 112 = .ok (.ireturn, 1) := by decide +kernel
theorem dM_load_113 : decode c_M_load 113 = .ok (.iload_n 2, 1) := by decide +kernel
theorem dM_load_114 : decode c_M_load 114 = .ok (.ifCond .eq 13, 3) := by decide +kernel
theorem dM_load_117 : decode c_M_load 117 = .ok (.iload_n 1, 1) := by decide +kernel
theorem dM_load_118 : decode c_M_load 118 = .ok (.invokestatic 95, 3) := by decide +kernel
theorem dM_load_121 : decode c_M_load 121 = .ok (.bipush 32, 2) := by decide +kernel
theorem dM_load_123 : decode c_M_load 123 = .ok (.isub, 1) := by decide +kernel
theorem dM_load_124 : decode c_M_load 124 = .ok (.goto 4, 3) := by decide +kernel
theorem dM_load_127 : decode c_M_load 127 = .ok (.iconst 0, 1) := by decide +kernel
theorem dM_load_128 : decode c_M_load 128 = .ok (.istore_n 3, 1) := by decide +kernel
theorem dM_load_129 : decode c_M_load 129 = .ok (.iconst 0, 1) := by decide +kernel
theorem dM_load_130 : decode c_M_load 130 = .ok (.istore 4, 2) := by decide +kernel
theorem dM_load_132 : decode c_M_load 132 = .ok (.iload 4, 2) := by decide +kernel
theorem dM_load_134 : decode c_M_load 134 = .ok (.iload_n 1, 1) := by decide +kernel
theorem dM_load_135 : decode c_M_load 135 = .ok (.invokestatic 95, 3) := by decide +kernel
theorem dM_load_138 : decode c_M_load 138 = .ok (.if_icmp .ge 30, 3) := by decide +kernel
theorem dM_load_141 : decode c_M_load 141 = .ok (.aload_n 0, 1) := by decide +kernel
theorem dM_load_142 : decode c_M_load 142 = .ok (.getfield 21, 3) := by decide +kernel
theorem dM_load_145 : decode c_M_load 145 = .ok (.aload_n 0, 1) := by decide +kernel
theorem dM_load_146 : decode c_M_load 146 = .ok (.getfield 83, 3) := by decide +kernel
theorem dM_load_149 : decode c_M_load 149 = .ok (.aaload, 1) := by decide +kernel
theorem dM_load_150 : decode c_M_load 150 = .ok (.iload 4, 2) := by decide +kernel
theorem dM_load_152 : decode c_M_load 152 = .ok (.aload_n 0, 1) := by decide +kernel
theorem dM_load_153 : decode c_M_load 153 = .ok (.getfield 7, 3) := by decide +kernel
theorem dM_load_156 : decode c_M_load 156 = .ok (.iload_n 3, 1) := by decide +kernel
theorem dM_load_157 : decode c_M_load 157 = .ok (.iload 4, 2) := by decide +kernel
theorem dM_load_159 : decode c_M_load 159 = .ok (.iadd, 1) := by decide +kernel
theorem dM_load_160 : decode c_M_load 160 = .ok (.baload, 1) := by decide +kernel
theorem dM_load_161 : decode c_M_load 161 = .ok (.bastore, 1) := by decide +kernel
theorem dM_load_162 : decode c_M_load 162 = .ok (.iinc 4 1, 3) := by decide +kernel
theorem dM_load_165 : decode c_M_load 165 = .ok (.goto (-33), 3) := by decide +kernel
theorem dM_load_168 : decode c_M_load 168 = .ok (.iconst 0, 1) := by decide +kernel
theorem dM_load_169 : decode c_M_load 169 = .ok (.istore 4, 2) := by decide +kernel
theorem dM_load_171 : decode c_M_load 171 = .ok (.iload_n 2, 1) := by decide +kernel
theorem dM_load_172 : decode c_M_load 172 = .ok (.ifCond .eq 37, 3) := by decide +kernel
theorem dM_load_175 : decode c_M_load 175 = .ok (.iload 4, 2) := by decide +kernel
theorem dM_load_177 : decode c_M_load 177 = .ok (.aload_n 0, 1) := by decide +kernel
theorem dM_load_178 : decode c_M_load 178 = .ok (.getfield 70, 3) := by decide +kernel
theorem dM_load_181 : decode c_M_load 181 = .ok (.if_icmp .ge 28, 3) := by decide +kernel
theorem dM_load_184 : decode c_M_load 184 = .ok (.aload_n 0, 1) := by decide +kernel
theorem dM_load_185 : decode c_M_load 185 = .ok (.getfield 24, 3) := by decide +kernel
theorem dM_load_188 : decode c_M_load 188 = .ok (.aload_n 0, 1) := by decide +kernel
theorem dM_load_189 : decode c_M_load 189 = .ok (.getfield 83, 3) := by decide +kernel
theorem dM_load_192 : decode c_M_load 192 = .ok (.aaload, 1) := by decide +kernel
theorem dM_load_193 : decode c_M_load 193 = .ok (.iload 4, 2) := by decide +kernel
theorem dM_load_195 : decode c_M_load 195 = .ok (.aload_n 0, 1) := by decide +kernel
theorem dM_load_196 : decode c_M_load 196 = .ok (.getfield 7, 3) := by decide +kernel
theorem dM_load_199 : decode c_M_load 199 = .ok (.iload 4, 2) := by decide +kernel
theorem dM_load_201 : decode c_M_load 201 = .ok (.baload, 1) := by decide +kernel
theorem dM_load_202 : decode c_M_load 202 = .ok (.bastore, 1) := by decide +kernel
theorem dM_load_203 : decode c_M_load 203 = .ok (.iinc 4 1, 3) := by decide +kernel
theorem dM_load_206 : decode c_M_load 206 = .ok (.goto (-35), 3) := by decide +kernel
theorem dM_load_209 : decode c_M_load 209 = .ok (.aload_n 0, 1) := by decide +kernel
theorem dM_load_210 : decode c_M_load 210 = .ok (.iload_n 1, 1) := by decide +kernel
theorem dM_load_211 : decode c_M_load 211 = .ok (.iload_n 2, 1) := by decide +kernel
theorem dM_load_212 : decode c_M_load 212 = .ok (.ifCond .eq 10, 3) := by decide +kernel
theorem dM_load_215 : decode c_M_load 215 = .ok (.aload_n 0, 1) := by decide +kernel
theorem dM_load_216 : decode c_M_load 216 = .ok (.getfield 70, 3) := by decide +kernel
theorem dM_load_219 : decode c_M_load 219 = .ok (.goto 4, 3) := by decide +kernel
theorem dM_load_222 : decode c_M_load 222 = .ok (.iconst 0, 1) := by decide +kernel
theorem dM_load_223 : decode c_M_load 223 = .ok (.invokevirtual 91, 3) := by decide +kernel
theorem dM_load_226 : decode c_M_load 226 = .ok (.ireturn, 1) := by decide +kernel
def M_M_load (k : Nat) : Prop := (153 ≤ k ∧ k < 161) ∨ (162 ≤ k ∧ k < 170) ∨ k = 148 ∨ k = 170 ∨ k = 171 ∨ k = 172 ∨ k = 222 ∨ (0 : Nat) = 1
noncomputable def F_M_load_L11 : Nat → Nat → Sto → Int32 × Sto
  | 0, i32, s43 => bnd ((s43.1 148 1).toNatClampNeg) fun z86 => bnd ((s43.1 148 1).toNatClampNeg) fun z87 => bnd (F_M_madeP 2 z87 s43) fun q89 => (q89.1, q89.2)
  | n32 + 1, i32, s43 => bnd ((s43.1 148 1).toNatClampNeg) fun z88 => bnd ((s43.1 148 3).toNatClampNeg) fun z89 => bnd (sB s43 ((162 + z89)) i32 (s43.1 149 i32)) fun s44 => F_M_load_L11  n32 (i32 + 1) s44
noncomputable def F_M_load_L10 : Nat → Nat → Sto → Int32 × Sto
  | 0, i31, s42 => bnd (F_M_openSize_2  s42) fun q88 => bnd (q88.1.toNatClampNeg) fun z85 => F_M_load_L11 3168 0 q88.2
  | n31 + 1, i31, s42 => bnd (F_M_openSize_2  s42) fun q90 => bnd (q90.1.toNatClampNeg) fun z90 => bnd ((q90.2.1 148 3).toNatClampNeg) fun z91 => bnd (sB q90.2 ((153 + z91)) i31 (q90.2.1 149 (1536 + i31))) fun s45 => F_M_load_L10  n31 (i31 + 1) s45
noncomputable def F_M_load_L9 : Nat → Nat → Sto → Int32 × Sto
  | 0, i30, s39 => bnd ((s39.1 148 1).toNatClampNeg) fun z75 => bnd ((s39.1 148 1).toNatClampNeg) fun z76 => bnd (F_M_madeP 1 z76 s39) fun q80 => (q80.1, q80.2)
  | n30 + 1, i30, s39 => bnd ((s39.1 148 1).toNatClampNeg) fun z77 => bnd ((s39.1 148 3).toNatClampNeg) fun z78 => bnd (sB s39 ((162 + z78)) i30 (s39.1 149 i30)) fun s40 => F_M_load_L9  n30 (i30 + 1) s40
noncomputable def F_M_load_L8 : Nat → Nat → Sto → Int32 × Sto
  | 0, i29, s38 => bnd (F_M_openSize_1  s38) fun q79 => bnd (q79.1.toNatClampNeg) fun z74 => F_M_load_L9 2400 0 q79.2
  | n29 + 1, i29, s38 => bnd (F_M_openSize_1  s38) fun q81 => bnd (q81.1.toNatClampNeg) fun z79 => bnd ((q81.2.1 148 3).toNatClampNeg) fun z80 => bnd (sB q81.2 ((153 + z80)) i29 (q81.2.1 149 (1152 + i29))) fun s41 => F_M_load_L8  n29 (i29 + 1) s41
noncomputable def F_M_load_L7 : Nat → Nat → Sto → Int32 × Sto
  | 0, i28, s35 => bnd ((s35.1 148 1).toNatClampNeg) fun z64 => bnd ((s35.1 148 1).toNatClampNeg) fun z65 => bnd (F_M_madeP 0 z65 s35) fun q71 => (q71.1, q71.2)
  | n28 + 1, i28, s35 => bnd ((s35.1 148 1).toNatClampNeg) fun z66 => bnd ((s35.1 148 3).toNatClampNeg) fun z67 => bnd (sB s35 ((162 + z67)) i28 (s35.1 149 i28)) fun s36 => F_M_load_L7  n28 (i28 + 1) s36
noncomputable def F_M_load_L6 : Nat → Nat → Sto → Int32 × Sto
  | 0, i27, s34 => bnd (F_M_openSize_0  s34) fun q70 => bnd (q70.1.toNatClampNeg) fun z63 => F_M_load_L7 1632 0 q70.2
  | n27 + 1, i27, s34 => bnd (F_M_openSize_0  s34) fun q72 => bnd (q72.1.toNatClampNeg) fun z68 => bnd ((q72.2.1 148 3).toNatClampNeg) fun z69 => bnd (sB q72.2 ((153 + z69)) i27 (q72.2.1 149 (768 + i27))) fun s37 => F_M_load_L6  n27 (i27 + 1) s37
noncomputable def F_M_load_L5 : Nat → Nat → Sto → Int32 × Sto
  | 0, i26, s32 => bnd (F_M_openSize_5  s32) fun q60 => bnd (q60.1.toNatClampNeg) fun z55 => bnd (F_M_madeP 5 0 q60.2) fun q61 => (q61.1, q61.2)
  | n26 + 1, i26, s32 => bnd (F_M_openSize_5  s32) fun q62 => bnd (q62.1.toNatClampNeg) fun z56 => bnd ((q62.2.1 148 3).toNatClampNeg) fun z57 => bnd (sB q62.2 ((153 + z57)) i26 (q62.2.1 149 (0 + i26))) fun s33 => F_M_load_L5  n26 (i26 + 1) s33
noncomputable def F_M_load_L4 : Nat → Nat → Sto → Int32 × Sto
  | 0, i25, s30 => bnd (F_M_openSize_4  s30) fun q54 => bnd (q54.1.toNatClampNeg) fun z49 => bnd (F_M_madeP 4 0 q54.2) fun q55 => (q55.1, q55.2)
  | n25 + 1, i25, s30 => bnd (F_M_openSize_4  s30) fun q56 => bnd (q56.1.toNatClampNeg) fun z50 => bnd ((q56.2.1 148 3).toNatClampNeg) fun z51 => bnd (sB q56.2 ((153 + z51)) i25 (q56.2.1 149 (0 + i25))) fun s31 => F_M_load_L4  n25 (i25 + 1) s31
noncomputable def F_M_load_L3 : Nat → Nat → Sto → Int32 × Sto
  | 0, i24, s28 => bnd (F_M_openSize_3  s28) fun q48 => bnd (q48.1.toNatClampNeg) fun z43 => bnd (F_M_madeP 3 0 q48.2) fun q49 => (q49.1, q49.2)
  | n24 + 1, i24, s28 => bnd (F_M_openSize_3  s28) fun q50 => bnd (q50.1.toNatClampNeg) fun z44 => bnd ((q50.2.1 148 3).toNatClampNeg) fun z45 => bnd (sB q50.2 ((153 + z45)) i24 (q50.2.1 149 (0 + i24))) fun s29 => F_M_load_L3  n24 (i24 + 1) s29
noncomputable def F_M_load_L2 : Nat → Nat → Sto → Int32 × Sto
  | 0, i23, s26 => bnd (F_M_openSize_2  s26) fun q41 => bnd (q41.1.toNatClampNeg) fun z37 => bnd (F_M_madeP 2 0 q41.2) fun q42 => (q42.1, q42.2)
  | n23 + 1, i23, s26 => bnd (F_M_openSize_2  s26) fun q43 => bnd (q43.1.toNatClampNeg) fun z38 => bnd ((q43.2.1 148 3).toNatClampNeg) fun z39 => bnd (sB q43.2 ((153 + z39)) i23 (q43.2.1 149 (0 + i23))) fun s27 => F_M_load_L2  n23 (i23 + 1) s27
noncomputable def F_M_load_L1 : Nat → Nat → Sto → Int32 × Sto
  | 0, i22, s24 => bnd (F_M_openSize_1  s24) fun q33 => bnd (q33.1.toNatClampNeg) fun z31 => bnd (F_M_madeP 1 0 q33.2) fun q34 => (q34.1, q34.2)
  | n22 + 1, i22, s24 => bnd (F_M_openSize_1  s24) fun q35 => bnd (q35.1.toNatClampNeg) fun z32 => bnd ((q35.2.1 148 3).toNatClampNeg) fun z33 => bnd (sB q35.2 ((153 + z33)) i22 (q35.2.1 149 (0 + i22))) fun s25 => F_M_load_L1  n22 (i22 + 1) s25
noncomputable def F_M_load_L0 : Nat → Nat → Sto → Int32 × Sto
  | 0, i21, s22 => bnd (F_M_openSize_0  s22) fun q25 => bnd (q25.1.toNatClampNeg) fun z25 => bnd (F_M_madeP 0 0 q25.2) fun q26 => (q26.1, q26.2)
  | n21 + 1, i21, s22 => bnd (F_M_openSize_0  s22) fun q27 => bnd (q27.1.toNatClampNeg) fun z26 => bnd ((q27.2.1 148 3).toNatClampNeg) fun z27 => bnd (sB q27.2 ((153 + z27)) i21 (q27.2.1 149 (0 + i21))) fun s23 => F_M_load_L0  n21 (i21 + 1) s23
noncomputable def F_M_load (v : Int32) (sc : Int32) (s : Sto) : Int32 × Sto := bnd (sI s 148 0 (nI 0)) fun s21 => if v < 0 then bnd (F_M_fail (nI 1) s21) fun q21 => (q21.1, q21.2) else if sc = 0 then if (nI 5) < v then bnd (F_M_fail (nI 1) s21) fun q22 => (q22.1, q22.2) else bnd (v.toNatClampNeg) fun z21 => if z21 = 0 then bnd ((s21.1 148 1).toNatClampNeg) fun z22 => bnd (F_M_openSize_0  s21) fun q23 => bnd (q23.1.toNatClampNeg) fun z23 => if z22 = 800 then bnd (F_ME_goodOpen_0 149 q23.2) fun q24 => if (q24.1) = 0 then bnd (F_M_fail (nI 2) q24.2) fun q29 => (q29.1, q29.2) else bnd ((q24.2.1 148 3).toNatClampNeg) fun z24 => if z24 = 8 then bnd (F_M_fail (nI 3) q24.2) fun q28 => (q28.1, q28.2) else F_M_load_L0 800 0 q24.2 else bnd (F_M_fail (nI 1) q23.2) fun q30 => (q30.1, q30.2) else if z21 = 1 then bnd ((s21.1 148 1).toNatClampNeg) fun z28 => bnd (F_M_openSize_1  s21) fun q31 => bnd (q31.1.toNatClampNeg) fun z29 => if z28 = 1184 then bnd (F_ME_goodOpen_1 149 q31.2) fun q32 => if (q32.1) = 0 then bnd (F_M_fail (nI 2) q32.2) fun q37 => (q37.1, q37.2) else bnd ((q32.2.1 148 3).toNatClampNeg) fun z30 => if z30 = 8 then bnd (F_M_fail (nI 3) q32.2) fun q36 => (q36.1, q36.2) else F_M_load_L1 1184 0 q32.2 else bnd (F_M_fail (nI 1) q31.2) fun q38 => (q38.1, q38.2) else if z21 = 2 then bnd ((s21.1 148 1).toNatClampNeg) fun z34 => bnd (F_M_openSize_2  s21) fun q39 => bnd (q39.1.toNatClampNeg) fun z35 => if z34 = 1568 then bnd (F_ME_goodOpen_2 149 q39.2) fun q40 => if (q40.1) = 0 then bnd (F_M_fail (nI 2) q40.2) fun q45 => (q45.1, q45.2) else bnd ((q40.2.1 148 3).toNatClampNeg) fun z36 => if z36 = 8 then bnd (F_M_fail (nI 3) q40.2) fun q44 => (q44.1, q44.2) else F_M_load_L2 1568 0 q40.2 else bnd (F_M_fail (nI 1) q39.2) fun q46 => (q46.1, q46.2) else if z21 = 3 then bnd ((s21.1 148 1).toNatClampNeg) fun z40 => bnd (F_M_openSize_3  s21) fun q47 => bnd (q47.1.toNatClampNeg) fun z41 => if z40 = 1312 then bnd ((q47.2.1 148 3).toNatClampNeg) fun z42 => if z42 = 8 then bnd (F_M_fail (nI 3) q47.2) fun q51 => (q51.1, q51.2) else F_M_load_L3 1312 0 q47.2 else bnd (F_M_fail (nI 1) q47.2) fun q52 => (q52.1, q52.2) else if z21 = 4 then bnd ((s21.1 148 1).toNatClampNeg) fun z46 => bnd (F_M_openSize_4  s21) fun q53 => bnd (q53.1.toNatClampNeg) fun z47 => if z46 = 1952 then bnd ((q53.2.1 148 3).toNatClampNeg) fun z48 => if z48 = 8 then bnd (F_M_fail (nI 3) q53.2) fun q57 => (q57.1, q57.2) else F_M_load_L4 1952 0 q53.2 else bnd (F_M_fail (nI 1) q53.2) fun q58 => (q58.1, q58.2) else bnd ((s21.1 148 1).toNatClampNeg) fun z52 => bnd (F_M_openSize_5  s21) fun q59 => bnd (q59.1.toNatClampNeg) fun z53 => if z52 = 2592 then bnd ((q59.2.1 148 3).toNatClampNeg) fun z54 => if z54 = 8 then bnd (F_M_fail (nI 3) q59.2) fun q63 => (q63.1, q63.2) else F_M_load_L5 2592 0 q59.2 else bnd (F_M_fail (nI 1) q59.2) fun q64 => (q64.1, q64.2) else if (nI 2) < v then bnd (F_M_fail (nI 1) s21) fun q65 => (q65.1, q65.2) else bnd (v.toNatClampNeg) fun z58 => if z58 = 0 then bnd ((s21.1 148 1).toNatClampNeg) fun z59 => bnd (F_M_hiddenSize_0  s21) fun q66 => bnd (q66.1.toNatClampNeg) fun z60 => if z59 = 1632 then bnd (F_ME_goodHidden_0 149 q66.2) fun q67 => if (q67.1) = 0 then bnd (F_M_fail (nI 2) q67.2) fun q68 => (q68.1, q68.2) else bnd ((q67.2.1 148 3).toNatClampNeg) fun z61 => if z61 = 8 then bnd (F_M_fail (nI 3) q67.2) fun q73 => (q73.1, q73.2) else bnd (F_M_openSize_0  q67.2) fun q69 => bnd (q69.1.toNatClampNeg) fun z62 => F_M_load_L6 800 0 q69.2 else bnd (F_M_fail (nI 1) q66.2) fun q74 => (q74.1, q74.2) else if z58 = 1 then bnd ((s21.1 148 1).toNatClampNeg) fun z70 => bnd (F_M_hiddenSize_1  s21) fun q75 => bnd (q75.1.toNatClampNeg) fun z71 => if z70 = 2400 then bnd (F_ME_goodHidden_1 149 q75.2) fun q76 => if (q76.1) = 0 then bnd (F_M_fail (nI 2) q76.2) fun q77 => (q77.1, q77.2) else bnd ((q76.2.1 148 3).toNatClampNeg) fun z72 => if z72 = 8 then bnd (F_M_fail (nI 3) q76.2) fun q82 => (q82.1, q82.2) else bnd (F_M_openSize_1  q76.2) fun q78 => bnd (q78.1.toNatClampNeg) fun z73 => F_M_load_L8 1184 0 q78.2 else bnd (F_M_fail (nI 1) q75.2) fun q83 => (q83.1, q83.2) else bnd ((s21.1 148 1).toNatClampNeg) fun z81 => bnd (F_M_hiddenSize_2  s21) fun q84 => bnd (q84.1.toNatClampNeg) fun z82 => if z81 = 3168 then bnd (F_ME_goodHidden_2 149 q84.2) fun q85 => if (q85.1) = 0 then bnd (F_M_fail (nI 2) q85.2) fun q86 => (q86.1, q86.2) else bnd ((q85.2.1 148 3).toNatClampNeg) fun z83 => if z83 = 8 then bnd (F_M_fail (nI 3) q85.2) fun q91 => (q91.1, q91.2) else bnd (F_M_openSize_2  q85.2) fun q87 => bnd (q87.1.toNatClampNeg) fun z84 => F_M_load_L10 1568 0 q87.2 else bnd (F_M_fail (nI 1) q84.2) fun q92 => (q92.1, q92.2)
set_option maxHeartbeats 2000000 in
set_option maxRecDepth 100000 in
theorem N_M_load (l : Launch) (g : Gd) (sz : Nat) (T : TyN) (s : Sto) (pl : va_W) (hO : okn g T s pl) (hU : inj T) (h0 : Nat) (v : Int32) (sc : Int32) (tp : Nat) (rs : Nat) (ks : Nat) (k_h0 : T h0 = some 148) (e_tp : s.1 148 1 = nI tp) (e_rs : s.1 148 2 = nI rs) (e_ks : s.1 148 3 = nI ks) (h1 : tp ≤ 16384) (h2 : rs ≤ 8192) (h3 : ks ≤ 8) (qst : SETS ks (s.1 170)) (qhd : HIDS ks (s.1 171))  : Met l y_M_load w_M_load ({ frames := 6, cells := 0, slots := 0, locals := 139 } : Room) (va_Pc [.ref h0, .int v, .int sc] (pr (en g) g.1 vcl sz ([] ++ pl))) (va_Qi (fun (r : Int32) (u : (Int32 × Sto) × va_W) => (u.1 = F_M_load v sc s ∧ r = u.1.1 ∧ frm (M_M_load) s u.1.2 ∧ (∃ x : Nat, u.1.2.1 148 1 = nI x ∧ x ≤ 16384) ∧ (∃ x : Nat, u.1.2.1 148 2 = nI x ∧ x ≤ 8192) ∧ (∃ x : Nat, u.1.2.1 148 3 = nI x ∧ x ≤ 8) ∧ (∃ x : Nat, u.1.2.1 148 3 = nI x ∧ x ≤ 8 ∧ SETS x (u.1.2.1 170) ∧ HIDS x (u.1.2.1 171)) ∧ True) ∧ okn g T u.1.2 u.2) (po g.1 vcl (va_A ([] ++ pl) sz) (fun (u : (Int32 × Sto) × va_W) => [] ++ u.2)) (va_A ([] ++ pl) sz)) 0 0 (va_A ([] ++ pl) sz) := by
  refine mc_entry (cc := c_M_load) (maxL := 5) (ret := (some .int)) (by decide) rfl (Nat.le_of_ble_eq_true rfl) ?_
  intro p e s0 m args below meth c ls F hr hlk hnm hsz hP hD hE hA hl
  obtain ⟨hx, hb, hml, hown, hts⟩ := id F
  have hK := hE.1
  generalize va_A ([] ++ pl) sz = A at hD hE hA ⊢
  have hS : va_S A s0.heap s0.heap [] := va_S.rf
  have hl : lv_has ls 5 [(0, .ref h0), (1, .int v), (2, .int sc)] := hl
  have hR : F_M_load v sc s = F_M_load v sc s := rfl
  have hF : frm (M_M_load) s s := frm_rf
  refine lv_aload_n hx hb dM_load_0 rfl (lv_at hl 0 rfl) ?_
  refine lv_iconst (v := nI 0) hx hb dM_load_1 (by decide) ?_
  refine nw_put (C := "LatticeKeysModel") (TT := T_M) (N := 14) hx hb hts (wg_ft i_M) ty_M k_M n_M hown hK hO hU k_h0 (kn := 148) (ci := 8) (fl := [(0, 0), (0, 0), (0, 0), (0, 0), (3, 149), (3, 150), (3, 151), (3, 152), (3, 161), (3, 170), (3, 171), (3, 172), (3, 184), (3, 225)]) rfl hP hD hS rfl 0 (by decide) (hts _ (wg_t kw_1526)) (fun _ h9 => h9) rfl (by decide +kernel) rfl dM_load_2 (fun s21 pl H locs es21 hO hP hD hS => ?_)
  replace hR := bnd_step hR es21
  have hF := frm_sI hF es21 (by unfold M_M_load; omega)
  have hf21 : s21.1 148 1 = nI tp := fc_ne e_tp es21 (by omega)
  have hf22 : s21.1 148 2 = nI rs := fc_ne e_rs es21 (by omega)
  have hf23 : s21.1 148 3 = nI ks := fc_ne e_ks es21 (by omega)
  have hf24 : s21.1 148 0 = nI 0 := fc_eq es21
  have hg21 : SETS ks (s21.1 170) := by rw [(ar_sI es21 (by omega))]; exact qst
  have hg22 : HIDS ks (s21.1 171) := by rw [(ar_sI es21 (by omega))]; exact qhd
  refine lv_iload_n hx hb dM_load_5 rfl (lv_at hl 1 rfl) ?_
  refine lv_if_lt (tgt := 44) hx hb dM_load_6 (by decide) (fun h21 => ?_) (fun h21 => ?_)
  · replace hR := hR.trans (if_pos h21)
    refine lv_aload_n hx hb dM_load_44 rfl (lv_at hl 0 rfl) ?_
    refine lv_iconst (v := nI 1) hx hb dM_load_45 (by decide) ?_
    refine mp_i (cx := []) (wr := []) hP hD hS hA [] [] rfl rfl rfl (by decide) (va_runV (As := [.int (nI 1)]) (rest := []) F (N_M_fail l g _ T s21 pl hO hU h0 (nI 1) tp rs ks k_h0 hf21 hf22 hf23) (cwV 1 hts (wg_app (wg_c kw_1577 (wg_c kw_1579 (wg_c ks_50 (wg_c kw_9 wg_n)))) kw_1580) rfl rfl rfl (by decide +kernel) ⟨by decide, by decide⟩) (pn_W "LatticeKeysModel" (en_ok g) (ci := 8) (kn := 148) (fl := [(0, 0), (0, 0), (0, 0), (0, 0), (3, 149), (3, 150), (3, 151), (3, 152), (3, 161), (3, 170), (3, 171), (3, 172), (3, 184), (3, 225)]) hK hO k_h0 rfl hP hD hS hA hE [] rfl rfl rfl) rfl rfl hl.1 rfl (lv_room (Nat.le_of_ble_eq_true rfl)) dM_load_46 ⟨by omega, by omega⟩) (fun r21 u21 H locs hu21 hP hD hS => ?_)
    obtain ⟨q21, pl⟩ := u21
    obtain ⟨⟨eq21, rfl, hFc21, ⟨x21, hx_21, hb_21⟩, ⟨x22, hx_22, hb_22⟩, ⟨x23, hx_23, hb_23⟩, -⟩, hO⟩ := hu21
    have hO : okn g T q21.2 pl := hO
    have hP : va_P g.1 vcl ([] ++ pl) _ := hP
    have hD : va_D _ ([] ++ pl) := hD
    have hFc21 : frm (M_M_fail) s21 q21.2 := hFc21
    have hb_21 : x21 = tp := hb_21
    have hb_22 : x22 = rs := hb_22
    have hb_23 : x23 = ks := hb_23
    replace hR := bnd_step hR eq21
    have hF := frm_tr hF hFc21 (fun k hk => by unfold M_M_fail at hk; unfold M_M_load; omega)
    have hg23 : SETS ks (q21.2.1 170) := by rw [hFc21 170 (by unfold M_M_fail; omega)]; exact hg21
    have hg24 : HIDS ks (q21.2.1 171) := by rw [hFc21 171 (by unfold M_M_fail; omega)]; exact hg22
    refine W.widen (k := 0) (n := 0) (by omega) (by omega) ?_
    exact mp_iret hx hb hr hlk hP hD hS ((q21.1, q21.2), pl) ⟨⟨hR.symm, rfl, hF, ⟨x21, hx_21, by omega⟩, ⟨x22, hx_22, by omega⟩, ⟨x23, hx_23, by omega⟩, ⟨ks, (hx_23).trans (congrArg nI (show x23 = ks by omega)), by omega, hg23, hg24⟩, trivial⟩, hO⟩ [] rfl rfl rfl (by omega) (by omega) dM_load_49
  · replace hR := hR.trans (if_neg h21)
    refine lv_iload_n hx hb dM_load_9 rfl (lv_at hl 1 rfl) ?_
    refine lv_iload_n hx hb dM_load_10 rfl (lv_at hl 2 rfl) ?_
    refine lv_if_eq (tgt := 18) hx hb dM_load_11 (by decide) (fun h22 => ?_) (fun h22 => ?_)
    · replace hR := hR.trans (if_pos h22)
      refine lv_iconst (v := nI 5) hx hb dM_load_18 (by decide) ?_
      refine lv_icmp_gt (tgt := 44) hx hb dM_load_19 (by decide) (fun h23 => ?_) (fun h23 => ?_)
      · replace hR := hR.trans (if_pos h23)
        refine lv_aload_n hx hb dM_load_44 rfl (lv_at hl 0 rfl) ?_
        refine lv_iconst (v := nI 1) hx hb dM_load_45 (by decide) ?_
        refine mp_i (cx := []) (wr := []) hP hD hS hA [] [] rfl rfl rfl (by decide) (va_runV (As := [.int (nI 1)]) (rest := []) F (N_M_fail l g _ T s21 pl hO hU h0 (nI 1) tp rs ks k_h0 hf21 hf22 hf23) (cwV 1 hts (wg_app (wg_c kw_1577 (wg_c kw_1579 (wg_c ks_50 (wg_c kw_9 wg_n)))) kw_1580) rfl rfl rfl (by decide +kernel) ⟨by decide, by decide⟩) (pn_W "LatticeKeysModel" (en_ok g) (ci := 8) (kn := 148) (fl := [(0, 0), (0, 0), (0, 0), (0, 0), (3, 149), (3, 150), (3, 151), (3, 152), (3, 161), (3, 170), (3, 171), (3, 172), (3, 184), (3, 225)]) hK hO k_h0 rfl hP hD hS hA hE [] rfl rfl rfl) rfl rfl hl.1 rfl (lv_room (Nat.le_of_ble_eq_true rfl)) dM_load_46 ⟨by omega, by omega⟩) (fun r22 u22 H locs hu22 hP hD hS => ?_)
        obtain ⟨q22, pl⟩ := u22
        obtain ⟨⟨eq22, rfl, hFc22, ⟨x25, hx_25, hb_25⟩, ⟨x26, hx_26, hb_26⟩, ⟨x27, hx_27, hb_27⟩, -⟩, hO⟩ := hu22
        have hO : okn g T q22.2 pl := hO
        have hP : va_P g.1 vcl ([] ++ pl) _ := hP
        have hD : va_D _ ([] ++ pl) := hD
        have hFc22 : frm (M_M_fail) s21 q22.2 := hFc22
        have hb_25 : x25 = tp := hb_25
        have hb_26 : x26 = rs := hb_26
        have hb_27 : x27 = ks := hb_27
        replace hR := bnd_step hR eq22
        have hF := frm_tr hF hFc22 (fun k hk => by unfold M_M_fail at hk; unfold M_M_load; omega)
        have hg25 : SETS ks (q22.2.1 170) := by rw [hFc22 170 (by unfold M_M_fail; omega)]; exact hg21
        have hg26 : HIDS ks (q22.2.1 171) := by rw [hFc22 171 (by unfold M_M_fail; omega)]; exact hg22
        refine W.widen (k := 0) (n := 0) (by omega) (by omega) ?_
        exact mp_iret hx hb hr hlk hP hD hS ((q22.1, q22.2), pl) ⟨⟨hR.symm, rfl, hF, ⟨x25, hx_25, by omega⟩, ⟨x26, hx_26, by omega⟩, ⟨x27, hx_27, by omega⟩, ⟨ks, (hx_27).trans (congrArg nI (show x27 = ks by omega)), by omega, hg25, hg26⟩, trivial⟩, hO⟩ [] rfl rfl rfl (by omega) (by omega) dM_load_49
      · replace hR := hR.trans (if_neg h23)
        obtain ⟨z21, hz21, hv21⟩ := i32_lex h21 (by omega) h23
        have ez21 : z21 = v.toNatClampNeg := by rw [hv21]; exact (nI_clamp (by omega)).symm
        replace hR := bnd_step hR ez21
        rw [hv21] at hl
        by_cases hs21 : z21 = 0
        · replace hR := hR.trans (if_pos hs21)
          subst hs21
          refine lv_aload_n hx hb dM_load_22 rfl (lv_at hl 0 rfl) ?_
          refine nw_get (C := "LatticeKeysModel") (TT := T_M) (N := 14) hx hb hts (wg_ft i_M) hown hK hO k_h0 (kn := 148) (ci := 8) (fl := [(0, 0), (0, 0), (0, 0), (0, 0), (3, 149), (3, 150), (3, 151), (3, 152), (3, 161), (3, 170), (3, 171), (3, 172), (3, 184), (3, 225)]) rfl hP rfl 1 (by decide) (hts _ (wg_t kw_1527)) (fun _ h9 => h9) (cd := (0, 0)) rfl dM_load_23 (fun v21 hv22 => ?_)
          obtain rfl := (show v21 = .int (s21.1 148 1) from hv22)
          obtain ⟨z22, ez22, hz22, hz23⟩ := cl_of (b := 2147483648) hf21 (by omega) (by decide)
          replace hR := bnd_step hR ez22
          refine mi_as hz22 ?_
          refine lv_iload_n hx hb dM_load_26 rfl (lv_at hl 2 rfl) ?_
          refine lv_if_eq (tgt := 37) hx hb dM_load_27 (by decide) (fun h9 => ?_) (fun h9 => absurd h22 h9)
          refine lv_iload_n hx hb dM_load_37 rfl (lv_at hl 1 rfl) ?_
          refine mp_i (cx := []) (wr := []) hP hD hS hA [] [] rfl rfl rfl (by decide) (va_runS (As := [.int (nI 0)]) (rest := [.int (nI z22)]) F (N_M_openSize_0 l g _ T s21 pl hO hU ) (va_cwS 1 hts (wg_app (wg_c kw_1764 (wg_c kw_1765 (wg_c kw_9 wg_n))) kw_1766) rfl rfl rfl (by decide +kernel) ⟨by decide, by decide⟩) (pp_S (en_ok g) hP hD hS hA hE [] rfl rfl) rfl rfl hl.1 rfl (lv_room (Nat.le_of_ble_eq_true rfl)) dM_load_38 ⟨by omega, by omega⟩) (fun r23 u23 H locs hu23 hP hD hS => ?_)
          obtain ⟨q23, pl⟩ := u23
          obtain ⟨⟨eq23, rfl, hFc23, ⟨x29, hx_29, hb_29⟩, hxp23, -⟩, hO⟩ := hu23
          have hO : okn g T q23.2 pl := hO
          have hP : va_P g.1 vcl ([] ++ pl) _ := hP
          have hD : va_D _ ([] ++ pl) := hD
          have hFc23 : frm (M_M_openSize_0) s21 q23.2 := hFc23
          have hb_29 : x29 < 801 := hb_29
          replace hR := bnd_step hR eq23
          have hF := frm_tr hF hFc23 (fun k hk => by unfold M_M_openSize_0 at hk; unfold M_M_load; omega)
          have hf25 : q23.2.1 148 1 = nI tp := fc_F hf21 hFc23 (by unfold M_M_openSize_0; omega)
          have hf26 : q23.2.1 148 2 = nI rs := fc_F hf22 hFc23 (by unfold M_M_openSize_0; omega)
          have hf27 : q23.2.1 148 3 = nI ks := fc_F hf23 hFc23 (by unfold M_M_openSize_0; omega)
          have hf28 : q23.2.1 148 0 = nI 0 := fc_F hf24 hFc23 (by unfold M_M_openSize_0; omega)
          have hg27 : SETS ks (q23.2.1 170) := by rw [hFc23 170 (by unfold M_M_openSize_0; omega)]; exact hg21
          have hg28 : HIDS ks (q23.2.1 171) := by rw [hFc23 171 (by unfold M_M_openSize_0; omega)]; exact hg22
          obtain ⟨z23, ez23, hz24, hz25⟩ := cl_of (b := 2147483648) hx_29 (by omega) (by decide)
          replace hR := bnd_step hR ez23
          refine mi_as hz24 ?_
          have hsz21 : z23 = 800 := (nI_eq (by omega) (by omega)).mp (hz24.symm.trans hxp23)
          subst hsz21
          refine W.widen (k := 0) (n := 0) (by omega) (by omega) ?_
          refine mi_eq (tgt := 50) hx hb dM_load_41 (by decide) (by omega) (by omega) (fun h24 => ?_) (fun h24 => ?_)
          · replace hR := hR.trans (if_pos h24)
            refine lv_iload_n hx hb dM_load_50 rfl (lv_at hl 1 rfl) ?_
            refine lv_iconst (v := nI 3) hx hb dM_load_51 (by decide) ?_
            refine mi_ge (tgt := 98) hx hb dM_load_52 (by decide) (by omega) (by omega) (fun h25 => absurd h25 (by omega)) (fun h25 => ?_)
            refine lv_iload_n hx hb dM_load_55 rfl (lv_at hl 2 rfl) ?_
            refine lv_if_eq (tgt := 77) hx hb dM_load_56 (by decide) (fun h9 => ?_) (fun h9 => absurd h22 h9)
            refine lv_aload_n hx hb dM_load_77 rfl (lv_at hl 0 rfl) ?_
            refine nw_get (C := "LatticeKeysModel") (TT := T_M) (N := 14) hx hb hts (wg_ft i_M) hown hK hO k_h0 (kn := 148) (ci := 8) (fl := [(0, 0), (0, 0), (0, 0), (0, 0), (3, 149), (3, 150), (3, 151), (3, 152), (3, 161), (3, 170), (3, 171), (3, 172), (3, 184), (3, 225)]) rfl hP rfl 12 (by decide) (hts _ (wg_t kw_1538)) (fun _ h9 => h9) (cd := (3, 184)) rfl dM_load_78 (fun v22 hv23 => ?_)
            obtain ⟨r24, rfl, kr21⟩ := (show ∃ r : Nat, v22 = .ref r ∧ T r = some 184 from hv23)
            refine lv_iload_n hx hb dM_load_81 rfl (lv_at hl 1 rfl) ?_
            refine lv_aload_n hx hb dM_load_82 rfl (lv_at hl 0 rfl) ?_
            refine nw_get (C := "LatticeKeysModel") (TT := T_M) (N := 14) hx hb hts (wg_ft i_M) hown hK hO k_h0 (kn := 148) (ci := 8) (fl := [(0, 0), (0, 0), (0, 0), (0, 0), (3, 149), (3, 150), (3, 151), (3, 152), (3, 161), (3, 170), (3, 171), (3, 172), (3, 184), (3, 225)]) rfl hP rfl 4 (by decide) (hts _ (wg_t kw_1530)) (fun _ h9 => h9) (cd := (3, 149)) rfl dM_load_83 (fun v23 hv24 => ?_)
            obtain ⟨r25, rfl, kr22⟩ := (show ∃ r : Nat, v23 = .ref r ∧ T r = some 149 from hv24)
            refine mp_i (cx := []) (wr := []) hP hD hS hA [] [] rfl rfl rfl (by decide) (va_runV (As := [.int (nI 0), .ref r25]) (rest := []) F (N_ME_goodOpen_0 l g _ T q23.2 pl hO hU r24 r25 149 kr21 kr22 rfl) (cwV 2 hts (wg_app (wg_c kw_1773 (wg_c kw_1774 (wg_c kw_1775 (wg_c kw_11 wg_n)))) kw_1776) rfl rfl rfl (by decide +kernel) ⟨by decide, by decide⟩) (pn_W "LatticeKeysModel$Secrets" (en_ok g) (ci := 11) (kn := 184) (fl := [(3, 172), (3, 178), (3, 185), (3, 202), (3, 207), (3, 212), (3, 217), (3, 218), (3, 219), (3, 220), (3, 221), (3, 222), (3, 223), (3, 224)]) hK hO kr21 rfl hP hD hS hA hE [] rfl rfl rfl) rfl rfl hl.1 rfl (lv_room (Nat.le_of_ble_eq_true rfl)) dM_load_86 ⟨by omega, by omega⟩) (fun r26 u24 H locs hu24 hP hD hS => ?_)
            obtain ⟨q24, pl⟩ := u24
            obtain ⟨⟨eq24, rfl, hFc24, -⟩, hO⟩ := hu24
            have hO : okn g T q24.2 pl := hO
            have hP : va_P g.1 vcl ([] ++ pl) _ := hP
            have hD : va_D _ ([] ++ pl) := hD
            have hFc24 : frm (M_ME_goodOpen_0) q23.2 q24.2 := hFc24
            replace hR := bnd_step hR eq24
            have hF := frm_tr hF hFc24 (fun k hk => by unfold M_ME_goodOpen_0 at hk; unfold M_M_load; omega)
            have hf29 : q24.2.1 148 1 = nI tp := fc_F hf25 hFc24 (by unfold M_ME_goodOpen_0; omega)
            have hf30 : q24.2.1 148 2 = nI rs := fc_F hf26 hFc24 (by unfold M_ME_goodOpen_0; omega)
            have hf31 : q24.2.1 148 3 = nI ks := fc_F hf27 hFc24 (by unfold M_ME_goodOpen_0; omega)
            have hf32 : q24.2.1 148 0 = nI 0 := fc_F hf28 hFc24 (by unfold M_ME_goodOpen_0; omega)
            have hg29 : SETS ks (q24.2.1 170) := by rw [hFc24 170 (by unfold M_ME_goodOpen_0; omega)]; exact hg27
            have hg30 : HIDS ks (q24.2.1 171) := by rw [hFc24 171 (by unfold M_ME_goodOpen_0; omega)]; exact hg28
            refine W.widen (k := 0) (n := 0) (by omega) (by omega) ?_
            refine lv_if_ne (tgt := 98) hx hb dM_load_89 (by decide) (fun h26 => ?_) (fun h26 => ?_)
            · replace hR := hR.trans (if_neg h26)
              refine lv_aload_n hx hb dM_load_98 rfl (lv_at hl 0 rfl) ?_
              refine nw_get (C := "LatticeKeysModel") (TT := T_M) (N := 14) hx hb hts (wg_ft i_M) hown hK hO k_h0 (kn := 148) (ci := 8) (fl := [(0, 0), (0, 0), (0, 0), (0, 0), (3, 149), (3, 150), (3, 151), (3, 152), (3, 161), (3, 170), (3, 171), (3, 172), (3, 184), (3, 225)]) rfl hP rfl 3 (by decide) (hts _ (wg_t kw_1529)) (fun _ h9 => h9) (cd := (0, 0)) rfl dM_load_99 (fun v24 hv25 => ?_)
              obtain rfl := (show v24 = .int (q24.2.1 148 3) from hv25)
              obtain ⟨z24, ez24, hz26, hz27⟩ := cl_of (b := 2147483648) hf31 (by omega) (by decide)
              replace hR := bnd_step hR ez24
              refine mi_as hz26 ?_
              refine lv_bipush (v := nI 8) hx hb dM_load_102 (by decide) ?_
              refine mi_ne (tgt := 113) hx hb dM_load_104 (by decide) (by omega) (by omega) (fun h27 => ?_) (fun h27 => ?_)
              · replace hR := hR.trans (if_neg h27)
                refine lv_iload_n hx hb dM_load_113 rfl (lv_at hl 2 rfl) ?_
                refine lv_if_eq (tgt := 127) hx hb dM_load_114 (by decide) (fun h9 => ?_) (fun h9 => absurd h22 h9)
                refine lv_iconst (v := nI 0) hx hb dM_load_127 (by decide) ?_
                refine lv_istore_n (lv' := [(3, .int (nI 0)), (0, .ref h0), (1, .int (nI 0)), (2, .int sc)]) hx hb dM_load_128 rfl hl (by decide) rfl (fun ls hl => ?_)
                refine lv_iconst (v := nI 0) hx hb dM_load_129 (by decide) ?_
                refine lv_istore (lv' := [(4, .int (nI 0)), (3, .int (nI 0)), (0, .ref h0), (1, .int (nI 0)), (2, .int sc)]) hx hb dM_load_130 hl (by decide) rfl (fun ls hl => ?_)
                have lp21 : ∀ (n21 : Nat) (i21 : Nat) (s22 : Sto) (pl : va_W) (ls : Array Slot) (H : Heap) (locs : List Loc), n21 + i21 = 800 → frm (M_M_load) s s22 → s22.1 148 1 = nI tp → s22.1 148 2 = nI rs → s22.1 148 3 = nI ks → s22.1 148 0 = nI 0 → (SETS ks (s22.1 170)) → (HIDS ks (s22.1 171)) → F_M_load v sc s = F_M_load_L0 n21 i21 s22 → lv_has ls 5 [(4, .int (nI i21)), (3, .int (nI 0)), (0, .ref h0), (1, .int (nI 0)), (2, .int sc)] → okn g T s22 pl → va_P g.1 vcl ([] ++ pl) H → va_D A ([] ++ pl) → va_S A s0.heap H locs → W p l e ({ frames := 6, cells := 0, slots := 0, locals := 139 } : Room) s0 m args below meth c H locs 0 0 (MQ below (va_Qi (fun (r : Int32) (u : (Int32 × Sto) × va_W) => (u.1 = F_M_load v sc s ∧ r = u.1.1 ∧ frm (M_M_load) s u.1.2 ∧ (∃ x : Nat, u.1.2.1 148 1 = nI x ∧ x ≤ 16384) ∧ (∃ x : Nat, u.1.2.1 148 2 = nI x ∧ x ≤ 8192) ∧ (∃ x : Nat, u.1.2.1 148 3 = nI x ∧ x ≤ 8) ∧ (∃ x : Nat, u.1.2.1 148 3 = nI x ∧ x ≤ 8 ∧ SETS x (u.1.2.1 170) ∧ HIDS x (u.1.2.1 171)) ∧ True) ∧ okn g T u.1.2 u.2) (po g.1 vcl A (fun (u : (Int32 × Sto) × va_W) => [] ++ u.2)) A) args s0 0 0 A) (F0 m 132 ls []) := by
                  intro n21
                  induction n21 with
                  | zero =>
                    intro i21 s22 pl ls H locs hm21 hF hf33 hf34 hf35 hf36 hg31 hg32 hR hl hO hP hD hS
                    refine lv_iload hx hb dM_load_132 (lv_at hl 0 rfl) ?_
                    refine lv_iload_n hx hb dM_load_134 rfl (lv_at hl 3 rfl) ?_
                    refine mp_i (cx := []) (wr := []) hP hD hS hA [] [] rfl rfl rfl (by decide) (va_runS (As := [.int (nI 0)]) (rest := [.int (nI i21)]) F (N_M_openSize_0 l g _ T s22 pl hO hU ) (va_cwS 1 hts (wg_app (wg_c kw_1764 (wg_c kw_1765 (wg_c kw_9 wg_n))) kw_1766) rfl rfl rfl (by decide +kernel) ⟨by decide, by decide⟩) (pp_S (en_ok g) hP hD hS hA hE [] rfl rfl) rfl rfl hl.1 rfl (lv_room (Nat.le_of_ble_eq_true rfl)) dM_load_135 ⟨by omega, by omega⟩) (fun r27 u25 H locs hu25 hP hD hS => ?_)
                    obtain ⟨q25, pl⟩ := u25
                    obtain ⟨⟨eq25, rfl, hFc25, ⟨x31, hx_31, hb_31⟩, hxp25, -⟩, hO⟩ := hu25
                    have hO : okn g T q25.2 pl := hO
                    have hP : va_P g.1 vcl ([] ++ pl) _ := hP
                    have hD : va_D _ ([] ++ pl) := hD
                    have hFc25 : frm (M_M_openSize_0) s22 q25.2 := hFc25
                    have hb_31 : x31 < 801 := hb_31
                    replace hR := bnd_step hR eq25
                    have hF := frm_tr hF hFc25 (fun k hk => by unfold M_M_openSize_0 at hk; unfold M_M_load; omega)
                    have hf37 : q25.2.1 148 1 = nI tp := fc_F hf33 hFc25 (by unfold M_M_openSize_0; omega)
                    have hf38 : q25.2.1 148 2 = nI rs := fc_F hf34 hFc25 (by unfold M_M_openSize_0; omega)
                    have hf39 : q25.2.1 148 3 = nI ks := fc_F hf35 hFc25 (by unfold M_M_openSize_0; omega)
                    have hf40 : q25.2.1 148 0 = nI 0 := fc_F hf36 hFc25 (by unfold M_M_openSize_0; omega)
                    have hg33 : SETS ks (q25.2.1 170) := by rw [hFc25 170 (by unfold M_M_openSize_0; omega)]; exact hg31
                    have hg34 : HIDS ks (q25.2.1 171) := by rw [hFc25 171 (by unfold M_M_openSize_0; omega)]; exact hg32
                    obtain ⟨z25, ez25, hz28, hz29⟩ := cl_of (b := 2147483648) hx_31 (by omega) (by decide)
                    replace hR := bnd_step hR ez25
                    refine mi_as hz28 ?_
                    have hsz22 : z25 = 800 := (nI_eq (by omega) (by omega)).mp (hz28.symm.trans hxp25)
                    subst hsz22
                    refine W.widen (k := 0) (n := 0) (by omega) (by omega) ?_
                    refine mi_ge (tgt := 168) hx hb dM_load_138 (by decide) (by omega) (by omega) (fun h28 => ?_) (fun h28 => absurd h28 (by omega))
                    refine lv_iconst (v := nI 0) hx hb dM_load_168 (by decide) ?_
                    refine lv_istore (lv' := [(4, .int (nI 0)), (3, .int (nI 0)), (0, .ref h0), (1, .int (nI 0)), (2, .int sc)]) hx hb dM_load_169 hl (by decide) rfl (fun ls hl => ?_)
                    refine lv_iload_n hx hb dM_load_171 rfl (lv_at hl 4 rfl) ?_
                    refine lv_if_eq (tgt := 209) hx hb dM_load_172 (by decide) (fun h9 => ?_) (fun h9 => absurd h22 h9)
                    refine lv_aload_n hx hb dM_load_209 rfl (lv_at hl 2 rfl) ?_
                    refine lv_iload_n hx hb dM_load_210 rfl (lv_at hl 3 rfl) ?_
                    refine lv_iload_n hx hb dM_load_211 rfl (lv_at hl 4 rfl) ?_
                    refine lv_if_eq (tgt := 222) hx hb dM_load_212 (by decide) (fun h9 => ?_) (fun h9 => absurd h22 h9)
                    refine lv_iconst (v := nI 0) hx hb dM_load_222 (by decide) ?_
                    refine mp_i (cx := []) (wr := []) hP hD hS hA [] [] rfl rfl rfl (by decide) (va_runV (As := [.int (nI 0), .int (nI 0)]) (rest := []) F (N_M_madeP l g _ T q25.2 pl hO hU h0 0 0 tp rs ks k_h0 hf37 hf38 hf39 (by omega) (by omega) (by omega) hg33 hg34) (cwV 2 hts (wg_app (wg_c kw_1756 (wg_c kw_1758 (wg_c ks_64 (wg_c kw_9 wg_n)))) kw_1759) rfl rfl rfl (by decide +kernel) ⟨by decide, by decide⟩) (pn_W "LatticeKeysModel" (en_ok g) (ci := 8) (kn := 148) (fl := [(0, 0), (0, 0), (0, 0), (0, 0), (3, 149), (3, 150), (3, 151), (3, 152), (3, 161), (3, 170), (3, 171), (3, 172), (3, 184), (3, 225)]) hK hO k_h0 rfl hP hD hS hA hE [] rfl rfl rfl) rfl rfl hl.1 rfl (lv_room (Nat.le_of_ble_eq_true rfl)) dM_load_223 ⟨by omega, by omega⟩) (fun r28 u26 H locs hu26 hP hD hS => ?_)
                    obtain ⟨q26, pl⟩ := u26
                    obtain ⟨⟨eq26, rfl, hFc26, ⟨x32, hx_32, hb_32⟩, ⟨x33, hx_33, hb_33⟩, ⟨x34, hx_34, hb_34⟩, hxp26, -⟩, hO⟩ := hu26
                    have hO : okn g T q26.2 pl := hO
                    have hP : va_P g.1 vcl ([] ++ pl) _ := hP
                    have hD : va_D _ ([] ++ pl) := hD
                    have hFc26 : frm (M_M_madeP) q25.2 q26.2 := hFc26
                    have hb_32 : x32 = 0 := hb_32
                    have hb_33 : x33 = rs := hb_33
                    have hb_34 : x34 = ks + 1 := hb_34
                    replace hR := bnd_step hR eq26
                    have hF := frm_tr hF hFc26 (fun k hk => by unfold M_M_madeP at hk; unfold M_M_load; omega)
                    refine W.widen (k := 0) (n := 0) (by omega) (by omega) ?_
                    exact mp_iret hx hb hr hlk hP hD hS ((q26.1, q26.2), pl) ⟨⟨hR.symm, rfl, hF, ⟨x32, hx_32, by omega⟩, ⟨x33, hx_33, by omega⟩, ⟨x34, hx_34, by omega⟩, (by obtain ⟨x9, h9, e9, a9, b9⟩ := hxp26; subst e9; exact ⟨_, h9, by omega, a9, b9⟩), trivial⟩, hO⟩ [] rfl rfl rfl (by omega) (by omega) dM_load_226
                  | succ n21 ih21 =>
                    intro i21 s22 pl ls H locs hm21 hF hf41 hf42 hf43 hf44 hg31 hg32 hR hl hO hP hD hS
                    refine lv_iload hx hb dM_load_132 (lv_at hl 0 rfl) ?_
                    refine lv_iload_n hx hb dM_load_134 rfl (lv_at hl 3 rfl) ?_
                    refine mp_i (cx := []) (wr := []) hP hD hS hA [] [] rfl rfl rfl (by decide) (va_runS (As := [.int (nI 0)]) (rest := [.int (nI i21)]) F (N_M_openSize_0 l g _ T s22 pl hO hU ) (va_cwS 1 hts (wg_app (wg_c kw_1764 (wg_c kw_1765 (wg_c kw_9 wg_n))) kw_1766) rfl rfl rfl (by decide +kernel) ⟨by decide, by decide⟩) (pp_S (en_ok g) hP hD hS hA hE [] rfl rfl) rfl rfl hl.1 rfl (lv_room (Nat.le_of_ble_eq_true rfl)) dM_load_135 ⟨by omega, by omega⟩) (fun r29 u27 H locs hu27 hP hD hS => ?_)
                    obtain ⟨q27, pl⟩ := u27
                    obtain ⟨⟨eq27, rfl, hFc27, ⟨x36, hx_36, hb_36⟩, hxp27, -⟩, hO⟩ := hu27
                    have hO : okn g T q27.2 pl := hO
                    have hP : va_P g.1 vcl ([] ++ pl) _ := hP
                    have hD : va_D _ ([] ++ pl) := hD
                    have hFc27 : frm (M_M_openSize_0) s22 q27.2 := hFc27
                    have hb_36 : x36 < 801 := hb_36
                    replace hR := bnd_step hR eq27
                    have hF := frm_tr hF hFc27 (fun k hk => by unfold M_M_openSize_0 at hk; unfold M_M_load; omega)
                    have hf45 : q27.2.1 148 1 = nI tp := fc_F hf41 hFc27 (by unfold M_M_openSize_0; omega)
                    have hf46 : q27.2.1 148 2 = nI rs := fc_F hf42 hFc27 (by unfold M_M_openSize_0; omega)
                    have hf47 : q27.2.1 148 3 = nI ks := fc_F hf43 hFc27 (by unfold M_M_openSize_0; omega)
                    have hf48 : q27.2.1 148 0 = nI 0 := fc_F hf44 hFc27 (by unfold M_M_openSize_0; omega)
                    have hg35 : SETS ks (q27.2.1 170) := by rw [hFc27 170 (by unfold M_M_openSize_0; omega)]; exact hg31
                    have hg36 : HIDS ks (q27.2.1 171) := by rw [hFc27 171 (by unfold M_M_openSize_0; omega)]; exact hg32
                    obtain ⟨z26, ez26, hz30, hz31⟩ := cl_of (b := 2147483648) hx_36 (by omega) (by decide)
                    replace hR := bnd_step hR ez26
                    refine mi_as hz30 ?_
                    have hsz23 : z26 = 800 := (nI_eq (by omega) (by omega)).mp (hz30.symm.trans hxp27)
                    subst hsz23
                    refine W.widen (k := 0) (n := 0) (by omega) (by omega) ?_
                    refine mi_ge (tgt := 168) hx hb dM_load_138 (by decide) (by omega) (by omega) (fun h29 => absurd h29 (by omega)) (fun h29 => ?_)
                    refine lv_aload_n hx hb dM_load_141 rfl (lv_at hl 2 rfl) ?_
                    refine nw_get (C := "LatticeKeysModel") (TT := T_M) (N := 14) hx hb hts (wg_ft i_M) hown hK hO k_h0 (kn := 148) (ci := 8) (fl := [(0, 0), (0, 0), (0, 0), (0, 0), (3, 149), (3, 150), (3, 151), (3, 152), (3, 161), (3, 170), (3, 171), (3, 172), (3, 184), (3, 225)]) rfl hP rfl 7 (by decide) (hts _ (wg_t kw_1533)) (fun _ h9 => h9) (cd := (3, 152)) rfl dM_load_142 (fun v25 hv26 => ?_)
                    obtain ⟨r30, rfl, kr23⟩ := (show ∃ r : Nat, v25 = .ref r ∧ T r = some 152 from hv26)
                    refine lv_aload_n hx hb dM_load_145 rfl (lv_at hl 2 rfl) ?_
                    refine nw_get (C := "LatticeKeysModel") (TT := T_M) (N := 14) hx hb hts (wg_ft i_M) hown hK hO k_h0 (kn := 148) (ci := 8) (fl := [(0, 0), (0, 0), (0, 0), (0, 0), (3, 149), (3, 150), (3, 151), (3, 152), (3, 161), (3, 170), (3, 171), (3, 172), (3, 184), (3, 225)]) rfl hP rfl 3 (by decide) (hts _ (wg_t kw_1529)) (fun _ h9 => h9) (cd := (0, 0)) rfl dM_load_146 (fun v26 hv27 => ?_)
                    obtain rfl := (show v26 = .int (q27.2.1 148 3) from hv27)
                    obtain ⟨z27, ez27, hz32, hz33⟩ := cl_of (b := 2147483648) hf47 (by omega) (by decide)
                    replace hR := bnd_step hR ez27
                    refine mi_as hz32 ?_
                    refine nw_aald4 hx hb hK hO kr23 (k := 152) (b := 153) rfl hP (by omega) (by omega) dM_load_149 (fun r31 kr24 => ?_)
                    have hn21 : nsp (153 + z27) = (1, 2592, []) := rows_okb 153 8 2592 (by decide) _ (by omega)
                    refine lv_iload hx hb dM_load_150 (lv_at hl 0 rfl) ?_
                    refine lv_aload_n hx hb dM_load_152 rfl (lv_at hl 2 rfl) ?_
                    refine nw_get (C := "LatticeKeysModel") (TT := T_M) (N := 14) hx hb hts (wg_ft i_M) hown hK hO k_h0 (kn := 148) (ci := 8) (fl := [(0, 0), (0, 0), (0, 0), (0, 0), (3, 149), (3, 150), (3, 151), (3, 152), (3, 161), (3, 170), (3, 171), (3, 172), (3, 184), (3, 225)]) rfl hP rfl 4 (by decide) (hts _ (wg_t kw_1530)) (fun _ h9 => h9) (cd := (3, 149)) rfl dM_load_153 (fun v27 hv28 => ?_)
                    obtain ⟨r32, rfl, kr25⟩ := (show ∃ r : Nat, v27 = .ref r ∧ T r = some 149 from hv28)
                    refine lv_iload_n hx hb dM_load_156 rfl (lv_at hl 1 rfl) ?_
                    refine lv_iload hx hb dM_load_157 (lv_at hl 0 rfl) ?_
                    refine mi_iadd hx hb dM_load_159 ?_
                    refine nw_bald hx hb hK hO kr25 (k := 149) rfl hP (by omega) (by omega) dM_load_160 ?_
                    refine nw_bast hx hb hK hO hU kr24 (k := (153 + z27)) hn21 hP hD hS (by omega) (by omega) dM_load_161 (fun s23 pl H locs es22 hO hP hD hS => ?_)
                    replace hR := bnd_step hR es22
                    have hF := frm_sB hF es22 (by unfold M_M_load; omega)
                    have hf49 : s23.1 148 1 = nI tp := fc_B hf45 es22 (by omega)
                    have hf50 : s23.1 148 2 = nI rs := fc_B hf46 es22 (by omega)
                    have hf51 : s23.1 148 3 = nI ks := fc_B hf47 es22 (by omega)
                    have hf52 : s23.1 148 0 = nI 0 := fc_B hf48 es22 (by omega)
                    have hg37 : SETS ks (s23.1 170) := by rw [(ar_sB es22 (by omega))]; exact hg35
                    have hg38 : HIDS ks (s23.1 171) := by rw [(ar_sB es22 (by omega))]; exact hg36
                    refine mi_iinc (k := 0) (x := i21) (d := 1) (y := i21 + 1) (lv' := [(4, .int (nI (i21 + 1))), (3, .int (nI 0)), (0, .ref h0), (1, .int (nI 0)), (2, .int sc)]) hx hb dM_load_162 hl rfl (by decide) rfl (by decide) rfl (fun ls hl => ?_)
                    refine lv_goto (tgt := 132) hx hb dM_load_165 (by decide) ?_
                    exact ih21 (i21 + 1) s23 pl ls H locs (by omega) hF hf49 hf50 hf51 hf52 hg37 hg38 hR (lv_sub hl [0, 1, 2, 3, 4] rfl) hO hP hD hS
                exact lp21 800 0 q24.2 pl ls _ _ (by omega) hF hf29 hf30 hf31 hf32 hg29 hg30 hR (lv_sub hl [0, 1, 2, 3, 4] rfl) hO hP hD hS
              · replace hR := hR.trans (if_pos h27)
                refine lv_aload_n hx hb dM_load_107 rfl (lv_at hl 0 rfl) ?_
                refine lv_iconst (v := nI 3) hx hb dM_load_108 (by decide) ?_
                refine mp_i (cx := []) (wr := []) hP hD hS hA [] [] rfl rfl rfl (by decide) (va_runV (As := [.int (nI 3)]) (rest := []) F (N_M_fail l g _ T q24.2 pl hO hU h0 (nI 3) tp rs ks k_h0 hf29 hf30 hf31) (cwV 1 hts (wg_app (wg_c kw_1577 (wg_c kw_1579 (wg_c ks_50 (wg_c kw_9 wg_n)))) kw_1580) rfl rfl rfl (by decide +kernel) ⟨by decide, by decide⟩) (pn_W "LatticeKeysModel" (en_ok g) (ci := 8) (kn := 148) (fl := [(0, 0), (0, 0), (0, 0), (0, 0), (3, 149), (3, 150), (3, 151), (3, 152), (3, 161), (3, 170), (3, 171), (3, 172), (3, 184), (3, 225)]) hK hO k_h0 rfl hP hD hS hA hE [] rfl rfl rfl) rfl rfl hl.1 rfl (lv_room (Nat.le_of_ble_eq_true rfl)) dM_load_109 ⟨by omega, by omega⟩) (fun r33 u28 H locs hu28 hP hD hS => ?_)
                obtain ⟨q28, pl⟩ := u28
                obtain ⟨⟨eq28, rfl, hFc28, ⟨x37, hx_37, hb_37⟩, ⟨x38, hx_38, hb_38⟩, ⟨x39, hx_39, hb_39⟩, -⟩, hO⟩ := hu28
                have hO : okn g T q28.2 pl := hO
                have hP : va_P g.1 vcl ([] ++ pl) _ := hP
                have hD : va_D _ ([] ++ pl) := hD
                have hFc28 : frm (M_M_fail) q24.2 q28.2 := hFc28
                have hb_37 : x37 = tp := hb_37
                have hb_38 : x38 = rs := hb_38
                have hb_39 : x39 = ks := hb_39
                replace hR := bnd_step hR eq28
                have hF := frm_tr hF hFc28 (fun k hk => by unfold M_M_fail at hk; unfold M_M_load; omega)
                have hg39 : SETS ks (q28.2.1 170) := by rw [hFc28 170 (by unfold M_M_fail; omega)]; exact hg29
                have hg40 : HIDS ks (q28.2.1 171) := by rw [hFc28 171 (by unfold M_M_fail; omega)]; exact hg30
                refine W.widen (k := 0) (n := 0) (by omega) (by omega) ?_
                exact mp_iret hx hb hr hlk hP hD hS ((q28.1, q28.2), pl) ⟨⟨hR.symm, rfl, hF, ⟨x37, hx_37, by omega⟩, ⟨x38, hx_38, by omega⟩, ⟨x39, hx_39, by omega⟩, ⟨ks, (hx_39).trans (congrArg nI (show x39 = ks by omega)), by omega, hg39, hg40⟩, trivial⟩, hO⟩ [] rfl rfl rfl (by omega) (by omega) dM_load_112
            · replace hR := hR.trans (if_pos h26)
              refine lv_aload_n hx hb dM_load_92 rfl (lv_at hl 0 rfl) ?_
              refine lv_iconst (v := nI 2) hx hb dM_load_93 (by decide) ?_
              refine mp_i (cx := []) (wr := []) hP hD hS hA [] [] rfl rfl rfl (by decide) (va_runV (As := [.int (nI 2)]) (rest := []) F (N_M_fail l g _ T q24.2 pl hO hU h0 (nI 2) tp rs ks k_h0 hf29 hf30 hf31) (cwV 1 hts (wg_app (wg_c kw_1577 (wg_c kw_1579 (wg_c ks_50 (wg_c kw_9 wg_n)))) kw_1580) rfl rfl rfl (by decide +kernel) ⟨by decide, by decide⟩) (pn_W "LatticeKeysModel" (en_ok g) (ci := 8) (kn := 148) (fl := [(0, 0), (0, 0), (0, 0), (0, 0), (3, 149), (3, 150), (3, 151), (3, 152), (3, 161), (3, 170), (3, 171), (3, 172), (3, 184), (3, 225)]) hK hO k_h0 rfl hP hD hS hA hE [] rfl rfl rfl) rfl rfl hl.1 rfl (lv_room (Nat.le_of_ble_eq_true rfl)) dM_load_94 ⟨by omega, by omega⟩) (fun r34 u29 H locs hu29 hP hD hS => ?_)
              obtain ⟨q29, pl⟩ := u29
              obtain ⟨⟨eq29, rfl, hFc29, ⟨x41, hx_41, hb_41⟩, ⟨x42, hx_42, hb_42⟩, ⟨x43, hx_43, hb_43⟩, -⟩, hO⟩ := hu29
              have hO : okn g T q29.2 pl := hO
              have hP : va_P g.1 vcl ([] ++ pl) _ := hP
              have hD : va_D _ ([] ++ pl) := hD
              have hFc29 : frm (M_M_fail) q24.2 q29.2 := hFc29
              have hb_41 : x41 = tp := hb_41
              have hb_42 : x42 = rs := hb_42
              have hb_43 : x43 = ks := hb_43
              replace hR := bnd_step hR eq29
              have hF := frm_tr hF hFc29 (fun k hk => by unfold M_M_fail at hk; unfold M_M_load; omega)
              have hg41 : SETS ks (q29.2.1 170) := by rw [hFc29 170 (by unfold M_M_fail; omega)]; exact hg29
              have hg42 : HIDS ks (q29.2.1 171) := by rw [hFc29 171 (by unfold M_M_fail; omega)]; exact hg30
              refine W.widen (k := 0) (n := 0) (by omega) (by omega) ?_
              exact mp_iret hx hb hr hlk hP hD hS ((q29.1, q29.2), pl) ⟨⟨hR.symm, rfl, hF, ⟨x41, hx_41, by omega⟩, ⟨x42, hx_42, by omega⟩, ⟨x43, hx_43, by omega⟩, ⟨ks, (hx_43).trans (congrArg nI (show x43 = ks by omega)), by omega, hg41, hg42⟩, trivial⟩, hO⟩ [] rfl rfl rfl (by omega) (by omega) dM_load_97
          · replace hR := hR.trans (if_neg h24)
            refine lv_aload_n hx hb dM_load_44 rfl (lv_at hl 0 rfl) ?_
            refine lv_iconst (v := nI 1) hx hb dM_load_45 (by decide) ?_
            refine mp_i (cx := []) (wr := []) hP hD hS hA [] [] rfl rfl rfl (by decide) (va_runV (As := [.int (nI 1)]) (rest := []) F (N_M_fail l g _ T q23.2 pl hO hU h0 (nI 1) tp rs ks k_h0 hf25 hf26 hf27) (cwV 1 hts (wg_app (wg_c kw_1577 (wg_c kw_1579 (wg_c ks_50 (wg_c kw_9 wg_n)))) kw_1580) rfl rfl rfl (by decide +kernel) ⟨by decide, by decide⟩) (pn_W "LatticeKeysModel" (en_ok g) (ci := 8) (kn := 148) (fl := [(0, 0), (0, 0), (0, 0), (0, 0), (3, 149), (3, 150), (3, 151), (3, 152), (3, 161), (3, 170), (3, 171), (3, 172), (3, 184), (3, 225)]) hK hO k_h0 rfl hP hD hS hA hE [] rfl rfl rfl) rfl rfl hl.1 rfl (lv_room (Nat.le_of_ble_eq_true rfl)) dM_load_46 ⟨by omega, by omega⟩) (fun r35 u30 H locs hu30 hP hD hS => ?_)
            obtain ⟨q30, pl⟩ := u30
            obtain ⟨⟨eq30, rfl, hFc30, ⟨x45, hx_45, hb_45⟩, ⟨x46, hx_46, hb_46⟩, ⟨x47, hx_47, hb_47⟩, -⟩, hO⟩ := hu30
            have hO : okn g T q30.2 pl := hO
            have hP : va_P g.1 vcl ([] ++ pl) _ := hP
            have hD : va_D _ ([] ++ pl) := hD
            have hFc30 : frm (M_M_fail) q23.2 q30.2 := hFc30
            have hb_45 : x45 = tp := hb_45
            have hb_46 : x46 = rs := hb_46
            have hb_47 : x47 = ks := hb_47
            replace hR := bnd_step hR eq30
            have hF := frm_tr hF hFc30 (fun k hk => by unfold M_M_fail at hk; unfold M_M_load; omega)
            have hg43 : SETS ks (q30.2.1 170) := by rw [hFc30 170 (by unfold M_M_fail; omega)]; exact hg27
            have hg44 : HIDS ks (q30.2.1 171) := by rw [hFc30 171 (by unfold M_M_fail; omega)]; exact hg28
            refine W.widen (k := 0) (n := 0) (by omega) (by omega) ?_
            exact mp_iret hx hb hr hlk hP hD hS ((q30.1, q30.2), pl) ⟨⟨hR.symm, rfl, hF, ⟨x45, hx_45, by omega⟩, ⟨x46, hx_46, by omega⟩, ⟨x47, hx_47, by omega⟩, ⟨ks, (hx_47).trans (congrArg nI (show x47 = ks by omega)), by omega, hg43, hg44⟩, trivial⟩, hO⟩ [] rfl rfl rfl (by omega) (by omega) dM_load_49
        replace hR := hR.trans (if_neg hs21)
        by_cases hs22 : z21 = 1
        · replace hR := hR.trans (if_pos hs22)
          subst hs22
          refine lv_aload_n hx hb dM_load_22 rfl (lv_at hl 0 rfl) ?_
          refine nw_get (C := "LatticeKeysModel") (TT := T_M) (N := 14) hx hb hts (wg_ft i_M) hown hK hO k_h0 (kn := 148) (ci := 8) (fl := [(0, 0), (0, 0), (0, 0), (0, 0), (3, 149), (3, 150), (3, 151), (3, 152), (3, 161), (3, 170), (3, 171), (3, 172), (3, 184), (3, 225)]) rfl hP rfl 1 (by decide) (hts _ (wg_t kw_1527)) (fun _ h9 => h9) (cd := (0, 0)) rfl dM_load_23 (fun v28 hv29 => ?_)
          obtain rfl := (show v28 = .int (s21.1 148 1) from hv29)
          obtain ⟨z28, ez28, hz34, hz35⟩ := cl_of (b := 2147483648) hf21 (by omega) (by decide)
          replace hR := bnd_step hR ez28
          refine mi_as hz34 ?_
          refine lv_iload_n hx hb dM_load_26 rfl (lv_at hl 2 rfl) ?_
          refine lv_if_eq (tgt := 37) hx hb dM_load_27 (by decide) (fun h9 => ?_) (fun h9 => absurd h22 h9)
          refine lv_iload_n hx hb dM_load_37 rfl (lv_at hl 1 rfl) ?_
          refine mp_i (cx := []) (wr := []) hP hD hS hA [] [] rfl rfl rfl (by decide) (va_runS (As := [.int (nI 1)]) (rest := [.int (nI z28)]) F (N_M_openSize_1 l g _ T s21 pl hO hU ) (va_cwS 1 hts (wg_app (wg_c kw_1764 (wg_c kw_1765 (wg_c kw_9 wg_n))) kw_1766) rfl rfl rfl (by decide +kernel) ⟨by decide, by decide⟩) (pp_S (en_ok g) hP hD hS hA hE [] rfl rfl) rfl rfl hl.1 rfl (lv_room (Nat.le_of_ble_eq_true rfl)) dM_load_38 ⟨by omega, by omega⟩) (fun r36 u31 H locs hu31 hP hD hS => ?_)
          obtain ⟨q31, pl⟩ := u31
          obtain ⟨⟨eq31, rfl, hFc31, ⟨x49, hx_49, hb_49⟩, hxp31, -⟩, hO⟩ := hu31
          have hO : okn g T q31.2 pl := hO
          have hP : va_P g.1 vcl ([] ++ pl) _ := hP
          have hD : va_D _ ([] ++ pl) := hD
          have hFc31 : frm (M_M_openSize_1) s21 q31.2 := hFc31
          have hb_49 : x49 < 1185 := hb_49
          replace hR := bnd_step hR eq31
          have hF := frm_tr hF hFc31 (fun k hk => by unfold M_M_openSize_1 at hk; unfold M_M_load; omega)
          have hf53 : q31.2.1 148 1 = nI tp := fc_F hf21 hFc31 (by unfold M_M_openSize_1; omega)
          have hf54 : q31.2.1 148 2 = nI rs := fc_F hf22 hFc31 (by unfold M_M_openSize_1; omega)
          have hf55 : q31.2.1 148 3 = nI ks := fc_F hf23 hFc31 (by unfold M_M_openSize_1; omega)
          have hf56 : q31.2.1 148 0 = nI 0 := fc_F hf24 hFc31 (by unfold M_M_openSize_1; omega)
          have hg45 : SETS ks (q31.2.1 170) := by rw [hFc31 170 (by unfold M_M_openSize_1; omega)]; exact hg21
          have hg46 : HIDS ks (q31.2.1 171) := by rw [hFc31 171 (by unfold M_M_openSize_1; omega)]; exact hg22
          obtain ⟨z29, ez29, hz36, hz37⟩ := cl_of (b := 2147483648) hx_49 (by omega) (by decide)
          replace hR := bnd_step hR ez29
          refine mi_as hz36 ?_
          have hsz24 : z29 = 1184 := (nI_eq (by omega) (by omega)).mp (hz36.symm.trans hxp31)
          subst hsz24
          refine W.widen (k := 0) (n := 0) (by omega) (by omega) ?_
          refine mi_eq (tgt := 50) hx hb dM_load_41 (by decide) (by omega) (by omega) (fun h30 => ?_) (fun h30 => ?_)
          · replace hR := hR.trans (if_pos h30)
            refine lv_iload_n hx hb dM_load_50 rfl (lv_at hl 1 rfl) ?_
            refine lv_iconst (v := nI 3) hx hb dM_load_51 (by decide) ?_
            refine mi_ge (tgt := 98) hx hb dM_load_52 (by decide) (by omega) (by omega) (fun h31 => absurd h31 (by omega)) (fun h31 => ?_)
            refine lv_iload_n hx hb dM_load_55 rfl (lv_at hl 2 rfl) ?_
            refine lv_if_eq (tgt := 77) hx hb dM_load_56 (by decide) (fun h9 => ?_) (fun h9 => absurd h22 h9)
            refine lv_aload_n hx hb dM_load_77 rfl (lv_at hl 0 rfl) ?_
            refine nw_get (C := "LatticeKeysModel") (TT := T_M) (N := 14) hx hb hts (wg_ft i_M) hown hK hO k_h0 (kn := 148) (ci := 8) (fl := [(0, 0), (0, 0), (0, 0), (0, 0), (3, 149), (3, 150), (3, 151), (3, 152), (3, 161), (3, 170), (3, 171), (3, 172), (3, 184), (3, 225)]) rfl hP rfl 12 (by decide) (hts _ (wg_t kw_1538)) (fun _ h9 => h9) (cd := (3, 184)) rfl dM_load_78 (fun v29 hv30 => ?_)
            obtain ⟨r37, rfl, kr26⟩ := (show ∃ r : Nat, v29 = .ref r ∧ T r = some 184 from hv30)
            refine lv_iload_n hx hb dM_load_81 rfl (lv_at hl 1 rfl) ?_
            refine lv_aload_n hx hb dM_load_82 rfl (lv_at hl 0 rfl) ?_
            refine nw_get (C := "LatticeKeysModel") (TT := T_M) (N := 14) hx hb hts (wg_ft i_M) hown hK hO k_h0 (kn := 148) (ci := 8) (fl := [(0, 0), (0, 0), (0, 0), (0, 0), (3, 149), (3, 150), (3, 151), (3, 152), (3, 161), (3, 170), (3, 171), (3, 172), (3, 184), (3, 225)]) rfl hP rfl 4 (by decide) (hts _ (wg_t kw_1530)) (fun _ h9 => h9) (cd := (3, 149)) rfl dM_load_83 (fun v30 hv31 => ?_)
            obtain ⟨r38, rfl, kr27⟩ := (show ∃ r : Nat, v30 = .ref r ∧ T r = some 149 from hv31)
            refine mp_i (cx := []) (wr := []) hP hD hS hA [] [] rfl rfl rfl (by decide) (va_runV (As := [.int (nI 1), .ref r38]) (rest := []) F (N_ME_goodOpen_1 l g _ T q31.2 pl hO hU r37 r38 149 kr26 kr27 rfl) (cwV 2 hts (wg_app (wg_c kw_1773 (wg_c kw_1774 (wg_c kw_1775 (wg_c kw_11 wg_n)))) kw_1776) rfl rfl rfl (by decide +kernel) ⟨by decide, by decide⟩) (pn_W "LatticeKeysModel$Secrets" (en_ok g) (ci := 11) (kn := 184) (fl := [(3, 172), (3, 178), (3, 185), (3, 202), (3, 207), (3, 212), (3, 217), (3, 218), (3, 219), (3, 220), (3, 221), (3, 222), (3, 223), (3, 224)]) hK hO kr26 rfl hP hD hS hA hE [] rfl rfl rfl) rfl rfl hl.1 rfl (lv_room (Nat.le_of_ble_eq_true rfl)) dM_load_86 ⟨by omega, by omega⟩) (fun r39 u32 H locs hu32 hP hD hS => ?_)
            obtain ⟨q32, pl⟩ := u32
            obtain ⟨⟨eq32, rfl, hFc32, -⟩, hO⟩ := hu32
            have hO : okn g T q32.2 pl := hO
            have hP : va_P g.1 vcl ([] ++ pl) _ := hP
            have hD : va_D _ ([] ++ pl) := hD
            have hFc32 : frm (M_ME_goodOpen_1) q31.2 q32.2 := hFc32
            replace hR := bnd_step hR eq32
            have hF := frm_tr hF hFc32 (fun k hk => by unfold M_ME_goodOpen_1 at hk; unfold M_M_load; omega)
            have hf57 : q32.2.1 148 1 = nI tp := fc_F hf53 hFc32 (by unfold M_ME_goodOpen_1; omega)
            have hf58 : q32.2.1 148 2 = nI rs := fc_F hf54 hFc32 (by unfold M_ME_goodOpen_1; omega)
            have hf59 : q32.2.1 148 3 = nI ks := fc_F hf55 hFc32 (by unfold M_ME_goodOpen_1; omega)
            have hf60 : q32.2.1 148 0 = nI 0 := fc_F hf56 hFc32 (by unfold M_ME_goodOpen_1; omega)
            have hg47 : SETS ks (q32.2.1 170) := by rw [hFc32 170 (by unfold M_ME_goodOpen_1; omega)]; exact hg45
            have hg48 : HIDS ks (q32.2.1 171) := by rw [hFc32 171 (by unfold M_ME_goodOpen_1; omega)]; exact hg46
            refine W.widen (k := 0) (n := 0) (by omega) (by omega) ?_
            refine lv_if_ne (tgt := 98) hx hb dM_load_89 (by decide) (fun h32 => ?_) (fun h32 => ?_)
            · replace hR := hR.trans (if_neg h32)
              refine lv_aload_n hx hb dM_load_98 rfl (lv_at hl 0 rfl) ?_
              refine nw_get (C := "LatticeKeysModel") (TT := T_M) (N := 14) hx hb hts (wg_ft i_M) hown hK hO k_h0 (kn := 148) (ci := 8) (fl := [(0, 0), (0, 0), (0, 0), (0, 0), (3, 149), (3, 150), (3, 151), (3, 152), (3, 161), (3, 170), (3, 171), (3, 172), (3, 184), (3, 225)]) rfl hP rfl 3 (by decide) (hts _ (wg_t kw_1529)) (fun _ h9 => h9) (cd := (0, 0)) rfl dM_load_99 (fun v31 hv32 => ?_)
              obtain rfl := (show v31 = .int (q32.2.1 148 3) from hv32)
              obtain ⟨z30, ez30, hz38, hz39⟩ := cl_of (b := 2147483648) hf59 (by omega) (by decide)
              replace hR := bnd_step hR ez30
              refine mi_as hz38 ?_
              refine lv_bipush (v := nI 8) hx hb dM_load_102 (by decide) ?_
              refine mi_ne (tgt := 113) hx hb dM_load_104 (by decide) (by omega) (by omega) (fun h33 => ?_) (fun h33 => ?_)
              · replace hR := hR.trans (if_neg h33)
                refine lv_iload_n hx hb dM_load_113 rfl (lv_at hl 2 rfl) ?_
                refine lv_if_eq (tgt := 127) hx hb dM_load_114 (by decide) (fun h9 => ?_) (fun h9 => absurd h22 h9)
                refine lv_iconst (v := nI 0) hx hb dM_load_127 (by decide) ?_
                refine lv_istore_n (lv' := [(3, .int (nI 0)), (0, .ref h0), (1, .int (nI 1)), (2, .int sc)]) hx hb dM_load_128 rfl hl (by decide) rfl (fun ls hl => ?_)
                refine lv_iconst (v := nI 0) hx hb dM_load_129 (by decide) ?_
                refine lv_istore (lv' := [(4, .int (nI 0)), (3, .int (nI 0)), (0, .ref h0), (1, .int (nI 1)), (2, .int sc)]) hx hb dM_load_130 hl (by decide) rfl (fun ls hl => ?_)
                have lp22 : ∀ (n22 : Nat) (i22 : Nat) (s24 : Sto) (pl : va_W) (ls : Array Slot) (H : Heap) (locs : List Loc), n22 + i22 = 1184 → frm (M_M_load) s s24 → s24.1 148 1 = nI tp → s24.1 148 2 = nI rs → s24.1 148 3 = nI ks → s24.1 148 0 = nI 0 → (SETS ks (s24.1 170)) → (HIDS ks (s24.1 171)) → F_M_load v sc s = F_M_load_L1 n22 i22 s24 → lv_has ls 5 [(4, .int (nI i22)), (3, .int (nI 0)), (0, .ref h0), (1, .int (nI 1)), (2, .int sc)] → okn g T s24 pl → va_P g.1 vcl ([] ++ pl) H → va_D A ([] ++ pl) → va_S A s0.heap H locs → W p l e ({ frames := 6, cells := 0, slots := 0, locals := 139 } : Room) s0 m args below meth c H locs 0 0 (MQ below (va_Qi (fun (r : Int32) (u : (Int32 × Sto) × va_W) => (u.1 = F_M_load v sc s ∧ r = u.1.1 ∧ frm (M_M_load) s u.1.2 ∧ (∃ x : Nat, u.1.2.1 148 1 = nI x ∧ x ≤ 16384) ∧ (∃ x : Nat, u.1.2.1 148 2 = nI x ∧ x ≤ 8192) ∧ (∃ x : Nat, u.1.2.1 148 3 = nI x ∧ x ≤ 8) ∧ (∃ x : Nat, u.1.2.1 148 3 = nI x ∧ x ≤ 8 ∧ SETS x (u.1.2.1 170) ∧ HIDS x (u.1.2.1 171)) ∧ True) ∧ okn g T u.1.2 u.2) (po g.1 vcl A (fun (u : (Int32 × Sto) × va_W) => [] ++ u.2)) A) args s0 0 0 A) (F0 m 132 ls []) := by
                  intro n22
                  induction n22 with
                  | zero =>
                    intro i22 s24 pl ls H locs hm22 hF hf61 hf62 hf63 hf64 hg49 hg50 hR hl hO hP hD hS
                    refine lv_iload hx hb dM_load_132 (lv_at hl 0 rfl) ?_
                    refine lv_iload_n hx hb dM_load_134 rfl (lv_at hl 3 rfl) ?_
                    refine mp_i (cx := []) (wr := []) hP hD hS hA [] [] rfl rfl rfl (by decide) (va_runS (As := [.int (nI 1)]) (rest := [.int (nI i22)]) F (N_M_openSize_1 l g _ T s24 pl hO hU ) (va_cwS 1 hts (wg_app (wg_c kw_1764 (wg_c kw_1765 (wg_c kw_9 wg_n))) kw_1766) rfl rfl rfl (by decide +kernel) ⟨by decide, by decide⟩) (pp_S (en_ok g) hP hD hS hA hE [] rfl rfl) rfl rfl hl.1 rfl (lv_room (Nat.le_of_ble_eq_true rfl)) dM_load_135 ⟨by omega, by omega⟩) (fun r40 u33 H locs hu33 hP hD hS => ?_)
                    obtain ⟨q33, pl⟩ := u33
                    obtain ⟨⟨eq33, rfl, hFc33, ⟨x51, hx_51, hb_51⟩, hxp33, -⟩, hO⟩ := hu33
                    have hO : okn g T q33.2 pl := hO
                    have hP : va_P g.1 vcl ([] ++ pl) _ := hP
                    have hD : va_D _ ([] ++ pl) := hD
                    have hFc33 : frm (M_M_openSize_1) s24 q33.2 := hFc33
                    have hb_51 : x51 < 1185 := hb_51
                    replace hR := bnd_step hR eq33
                    have hF := frm_tr hF hFc33 (fun k hk => by unfold M_M_openSize_1 at hk; unfold M_M_load; omega)
                    have hf65 : q33.2.1 148 1 = nI tp := fc_F hf61 hFc33 (by unfold M_M_openSize_1; omega)
                    have hf66 : q33.2.1 148 2 = nI rs := fc_F hf62 hFc33 (by unfold M_M_openSize_1; omega)
                    have hf67 : q33.2.1 148 3 = nI ks := fc_F hf63 hFc33 (by unfold M_M_openSize_1; omega)
                    have hf68 : q33.2.1 148 0 = nI 0 := fc_F hf64 hFc33 (by unfold M_M_openSize_1; omega)
                    have hg51 : SETS ks (q33.2.1 170) := by rw [hFc33 170 (by unfold M_M_openSize_1; omega)]; exact hg49
                    have hg52 : HIDS ks (q33.2.1 171) := by rw [hFc33 171 (by unfold M_M_openSize_1; omega)]; exact hg50
                    obtain ⟨z31, ez31, hz40, hz41⟩ := cl_of (b := 2147483648) hx_51 (by omega) (by decide)
                    replace hR := bnd_step hR ez31
                    refine mi_as hz40 ?_
                    have hsz25 : z31 = 1184 := (nI_eq (by omega) (by omega)).mp (hz40.symm.trans hxp33)
                    subst hsz25
                    refine W.widen (k := 0) (n := 0) (by omega) (by omega) ?_
                    refine mi_ge (tgt := 168) hx hb dM_load_138 (by decide) (by omega) (by omega) (fun h34 => ?_) (fun h34 => absurd h34 (by omega))
                    refine lv_iconst (v := nI 0) hx hb dM_load_168 (by decide) ?_
                    refine lv_istore (lv' := [(4, .int (nI 0)), (3, .int (nI 0)), (0, .ref h0), (1, .int (nI 1)), (2, .int sc)]) hx hb dM_load_169 hl (by decide) rfl (fun ls hl => ?_)
                    refine lv_iload_n hx hb dM_load_171 rfl (lv_at hl 4 rfl) ?_
                    refine lv_if_eq (tgt := 209) hx hb dM_load_172 (by decide) (fun h9 => ?_) (fun h9 => absurd h22 h9)
                    refine lv_aload_n hx hb dM_load_209 rfl (lv_at hl 2 rfl) ?_
                    refine lv_iload_n hx hb dM_load_210 rfl (lv_at hl 3 rfl) ?_
                    refine lv_iload_n hx hb dM_load_211 rfl (lv_at hl 4 rfl) ?_
                    refine lv_if_eq (tgt := 222) hx hb dM_load_212 (by decide) (fun h9 => ?_) (fun h9 => absurd h22 h9)
                    refine lv_iconst (v := nI 0) hx hb dM_load_222 (by decide) ?_
                    refine mp_i (cx := []) (wr := []) hP hD hS hA [] [] rfl rfl rfl (by decide) (va_runV (As := [.int (nI 1), .int (nI 0)]) (rest := []) F (N_M_madeP l g _ T q33.2 pl hO hU h0 1 0 tp rs ks k_h0 hf65 hf66 hf67 (by omega) (by omega) (by omega) hg51 hg52) (cwV 2 hts (wg_app (wg_c kw_1756 (wg_c kw_1758 (wg_c ks_64 (wg_c kw_9 wg_n)))) kw_1759) rfl rfl rfl (by decide +kernel) ⟨by decide, by decide⟩) (pn_W "LatticeKeysModel" (en_ok g) (ci := 8) (kn := 148) (fl := [(0, 0), (0, 0), (0, 0), (0, 0), (3, 149), (3, 150), (3, 151), (3, 152), (3, 161), (3, 170), (3, 171), (3, 172), (3, 184), (3, 225)]) hK hO k_h0 rfl hP hD hS hA hE [] rfl rfl rfl) rfl rfl hl.1 rfl (lv_room (Nat.le_of_ble_eq_true rfl)) dM_load_223 ⟨by omega, by omega⟩) (fun r41 u34 H locs hu34 hP hD hS => ?_)
                    obtain ⟨q34, pl⟩ := u34
                    obtain ⟨⟨eq34, rfl, hFc34, ⟨x52, hx_52, hb_52⟩, ⟨x53, hx_53, hb_53⟩, ⟨x54, hx_54, hb_54⟩, hxp34, -⟩, hO⟩ := hu34
                    have hO : okn g T q34.2 pl := hO
                    have hP : va_P g.1 vcl ([] ++ pl) _ := hP
                    have hD : va_D _ ([] ++ pl) := hD
                    have hFc34 : frm (M_M_madeP) q33.2 q34.2 := hFc34
                    have hb_52 : x52 = 0 := hb_52
                    have hb_53 : x53 = rs := hb_53
                    have hb_54 : x54 = ks + 1 := hb_54
                    replace hR := bnd_step hR eq34
                    have hF := frm_tr hF hFc34 (fun k hk => by unfold M_M_madeP at hk; unfold M_M_load; omega)
                    refine W.widen (k := 0) (n := 0) (by omega) (by omega) ?_
                    exact mp_iret hx hb hr hlk hP hD hS ((q34.1, q34.2), pl) ⟨⟨hR.symm, rfl, hF, ⟨x52, hx_52, by omega⟩, ⟨x53, hx_53, by omega⟩, ⟨x54, hx_54, by omega⟩, (by obtain ⟨x9, h9, e9, a9, b9⟩ := hxp34; subst e9; exact ⟨_, h9, by omega, a9, b9⟩), trivial⟩, hO⟩ [] rfl rfl rfl (by omega) (by omega) dM_load_226
                  | succ n22 ih22 =>
                    intro i22 s24 pl ls H locs hm22 hF hf69 hf70 hf71 hf72 hg49 hg50 hR hl hO hP hD hS
                    refine lv_iload hx hb dM_load_132 (lv_at hl 0 rfl) ?_
                    refine lv_iload_n hx hb dM_load_134 rfl (lv_at hl 3 rfl) ?_
                    refine mp_i (cx := []) (wr := []) hP hD hS hA [] [] rfl rfl rfl (by decide) (va_runS (As := [.int (nI 1)]) (rest := [.int (nI i22)]) F (N_M_openSize_1 l g _ T s24 pl hO hU ) (va_cwS 1 hts (wg_app (wg_c kw_1764 (wg_c kw_1765 (wg_c kw_9 wg_n))) kw_1766) rfl rfl rfl (by decide +kernel) ⟨by decide, by decide⟩) (pp_S (en_ok g) hP hD hS hA hE [] rfl rfl) rfl rfl hl.1 rfl (lv_room (Nat.le_of_ble_eq_true rfl)) dM_load_135 ⟨by omega, by omega⟩) (fun r42 u35 H locs hu35 hP hD hS => ?_)
                    obtain ⟨q35, pl⟩ := u35
                    obtain ⟨⟨eq35, rfl, hFc35, ⟨x56, hx_56, hb_56⟩, hxp35, -⟩, hO⟩ := hu35
                    have hO : okn g T q35.2 pl := hO
                    have hP : va_P g.1 vcl ([] ++ pl) _ := hP
                    have hD : va_D _ ([] ++ pl) := hD
                    have hFc35 : frm (M_M_openSize_1) s24 q35.2 := hFc35
                    have hb_56 : x56 < 1185 := hb_56
                    replace hR := bnd_step hR eq35
                    have hF := frm_tr hF hFc35 (fun k hk => by unfold M_M_openSize_1 at hk; unfold M_M_load; omega)
                    have hf73 : q35.2.1 148 1 = nI tp := fc_F hf69 hFc35 (by unfold M_M_openSize_1; omega)
                    have hf74 : q35.2.1 148 2 = nI rs := fc_F hf70 hFc35 (by unfold M_M_openSize_1; omega)
                    have hf75 : q35.2.1 148 3 = nI ks := fc_F hf71 hFc35 (by unfold M_M_openSize_1; omega)
                    have hf76 : q35.2.1 148 0 = nI 0 := fc_F hf72 hFc35 (by unfold M_M_openSize_1; omega)
                    have hg53 : SETS ks (q35.2.1 170) := by rw [hFc35 170 (by unfold M_M_openSize_1; omega)]; exact hg49
                    have hg54 : HIDS ks (q35.2.1 171) := by rw [hFc35 171 (by unfold M_M_openSize_1; omega)]; exact hg50
                    obtain ⟨z32, ez32, hz42, hz43⟩ := cl_of (b := 2147483648) hx_56 (by omega) (by decide)
                    replace hR := bnd_step hR ez32
                    refine mi_as hz42 ?_
                    have hsz26 : z32 = 1184 := (nI_eq (by omega) (by omega)).mp (hz42.symm.trans hxp35)
                    subst hsz26
                    refine W.widen (k := 0) (n := 0) (by omega) (by omega) ?_
                    refine mi_ge (tgt := 168) hx hb dM_load_138 (by decide) (by omega) (by omega) (fun h35 => absurd h35 (by omega)) (fun h35 => ?_)
                    refine lv_aload_n hx hb dM_load_141 rfl (lv_at hl 2 rfl) ?_
                    refine nw_get (C := "LatticeKeysModel") (TT := T_M) (N := 14) hx hb hts (wg_ft i_M) hown hK hO k_h0 (kn := 148) (ci := 8) (fl := [(0, 0), (0, 0), (0, 0), (0, 0), (3, 149), (3, 150), (3, 151), (3, 152), (3, 161), (3, 170), (3, 171), (3, 172), (3, 184), (3, 225)]) rfl hP rfl 7 (by decide) (hts _ (wg_t kw_1533)) (fun _ h9 => h9) (cd := (3, 152)) rfl dM_load_142 (fun v32 hv33 => ?_)
                    obtain ⟨r43, rfl, kr28⟩ := (show ∃ r : Nat, v32 = .ref r ∧ T r = some 152 from hv33)
                    refine lv_aload_n hx hb dM_load_145 rfl (lv_at hl 2 rfl) ?_
                    refine nw_get (C := "LatticeKeysModel") (TT := T_M) (N := 14) hx hb hts (wg_ft i_M) hown hK hO k_h0 (kn := 148) (ci := 8) (fl := [(0, 0), (0, 0), (0, 0), (0, 0), (3, 149), (3, 150), (3, 151), (3, 152), (3, 161), (3, 170), (3, 171), (3, 172), (3, 184), (3, 225)]) rfl hP rfl 3 (by decide) (hts _ (wg_t kw_1529)) (fun _ h9 => h9) (cd := (0, 0)) rfl dM_load_146 (fun v33 hv34 => ?_)
                    obtain rfl := (show v33 = .int (q35.2.1 148 3) from hv34)
                    obtain ⟨z33, ez33, hz44, hz45⟩ := cl_of (b := 2147483648) hf75 (by omega) (by decide)
                    replace hR := bnd_step hR ez33
                    refine mi_as hz44 ?_
                    refine nw_aald4 hx hb hK hO kr28 (k := 152) (b := 153) rfl hP (by omega) (by omega) dM_load_149 (fun r44 kr29 => ?_)
                    have hn22 : nsp (153 + z33) = (1, 2592, []) := rows_okb 153 8 2592 (by decide) _ (by omega)
                    refine lv_iload hx hb dM_load_150 (lv_at hl 0 rfl) ?_
                    refine lv_aload_n hx hb dM_load_152 rfl (lv_at hl 2 rfl) ?_
                    refine nw_get (C := "LatticeKeysModel") (TT := T_M) (N := 14) hx hb hts (wg_ft i_M) hown hK hO k_h0 (kn := 148) (ci := 8) (fl := [(0, 0), (0, 0), (0, 0), (0, 0), (3, 149), (3, 150), (3, 151), (3, 152), (3, 161), (3, 170), (3, 171), (3, 172), (3, 184), (3, 225)]) rfl hP rfl 4 (by decide) (hts _ (wg_t kw_1530)) (fun _ h9 => h9) (cd := (3, 149)) rfl dM_load_153 (fun v34 hv35 => ?_)
                    obtain ⟨r45, rfl, kr30⟩ := (show ∃ r : Nat, v34 = .ref r ∧ T r = some 149 from hv35)
                    refine lv_iload_n hx hb dM_load_156 rfl (lv_at hl 1 rfl) ?_
                    refine lv_iload hx hb dM_load_157 (lv_at hl 0 rfl) ?_
                    refine mi_iadd hx hb dM_load_159 ?_
                    refine nw_bald hx hb hK hO kr30 (k := 149) rfl hP (by omega) (by omega) dM_load_160 ?_
                    refine nw_bast hx hb hK hO hU kr29 (k := (153 + z33)) hn22 hP hD hS (by omega) (by omega) dM_load_161 (fun s25 pl H locs es23 hO hP hD hS => ?_)
                    replace hR := bnd_step hR es23
                    have hF := frm_sB hF es23 (by unfold M_M_load; omega)
                    have hf77 : s25.1 148 1 = nI tp := fc_B hf73 es23 (by omega)
                    have hf78 : s25.1 148 2 = nI rs := fc_B hf74 es23 (by omega)
                    have hf79 : s25.1 148 3 = nI ks := fc_B hf75 es23 (by omega)
                    have hf80 : s25.1 148 0 = nI 0 := fc_B hf76 es23 (by omega)
                    have hg55 : SETS ks (s25.1 170) := by rw [(ar_sB es23 (by omega))]; exact hg53
                    have hg56 : HIDS ks (s25.1 171) := by rw [(ar_sB es23 (by omega))]; exact hg54
                    refine mi_iinc (k := 0) (x := i22) (d := 1) (y := i22 + 1) (lv' := [(4, .int (nI (i22 + 1))), (3, .int (nI 0)), (0, .ref h0), (1, .int (nI 1)), (2, .int sc)]) hx hb dM_load_162 hl rfl (by decide) rfl (by decide) rfl (fun ls hl => ?_)
                    refine lv_goto (tgt := 132) hx hb dM_load_165 (by decide) ?_
                    exact ih22 (i22 + 1) s25 pl ls H locs (by omega) hF hf77 hf78 hf79 hf80 hg55 hg56 hR (lv_sub hl [0, 1, 2, 3, 4] rfl) hO hP hD hS
                exact lp22 1184 0 q32.2 pl ls _ _ (by omega) hF hf57 hf58 hf59 hf60 hg47 hg48 hR (lv_sub hl [0, 1, 2, 3, 4] rfl) hO hP hD hS
              · replace hR := hR.trans (if_pos h33)
                refine lv_aload_n hx hb dM_load_107 rfl (lv_at hl 0 rfl) ?_
                refine lv_iconst (v := nI 3) hx hb dM_load_108 (by decide) ?_
                refine mp_i (cx := []) (wr := []) hP hD hS hA [] [] rfl rfl rfl (by decide) (va_runV (As := [.int (nI 3)]) (rest := []) F (N_M_fail l g _ T q32.2 pl hO hU h0 (nI 3) tp rs ks k_h0 hf57 hf58 hf59) (cwV 1 hts (wg_app (wg_c kw_1577 (wg_c kw_1579 (wg_c ks_50 (wg_c kw_9 wg_n)))) kw_1580) rfl rfl rfl (by decide +kernel) ⟨by decide, by decide⟩) (pn_W "LatticeKeysModel" (en_ok g) (ci := 8) (kn := 148) (fl := [(0, 0), (0, 0), (0, 0), (0, 0), (3, 149), (3, 150), (3, 151), (3, 152), (3, 161), (3, 170), (3, 171), (3, 172), (3, 184), (3, 225)]) hK hO k_h0 rfl hP hD hS hA hE [] rfl rfl rfl) rfl rfl hl.1 rfl (lv_room (Nat.le_of_ble_eq_true rfl)) dM_load_109 ⟨by omega, by omega⟩) (fun r46 u36 H locs hu36 hP hD hS => ?_)
                obtain ⟨q36, pl⟩ := u36
                obtain ⟨⟨eq36, rfl, hFc36, ⟨x57, hx_57, hb_57⟩, ⟨x58, hx_58, hb_58⟩, ⟨x59, hx_59, hb_59⟩, -⟩, hO⟩ := hu36
                have hO : okn g T q36.2 pl := hO
                have hP : va_P g.1 vcl ([] ++ pl) _ := hP
                have hD : va_D _ ([] ++ pl) := hD
                have hFc36 : frm (M_M_fail) q32.2 q36.2 := hFc36
                have hb_57 : x57 = tp := hb_57
                have hb_58 : x58 = rs := hb_58
                have hb_59 : x59 = ks := hb_59
                replace hR := bnd_step hR eq36
                have hF := frm_tr hF hFc36 (fun k hk => by unfold M_M_fail at hk; unfold M_M_load; omega)
                have hg57 : SETS ks (q36.2.1 170) := by rw [hFc36 170 (by unfold M_M_fail; omega)]; exact hg47
                have hg58 : HIDS ks (q36.2.1 171) := by rw [hFc36 171 (by unfold M_M_fail; omega)]; exact hg48
                refine W.widen (k := 0) (n := 0) (by omega) (by omega) ?_
                exact mp_iret hx hb hr hlk hP hD hS ((q36.1, q36.2), pl) ⟨⟨hR.symm, rfl, hF, ⟨x57, hx_57, by omega⟩, ⟨x58, hx_58, by omega⟩, ⟨x59, hx_59, by omega⟩, ⟨ks, (hx_59).trans (congrArg nI (show x59 = ks by omega)), by omega, hg57, hg58⟩, trivial⟩, hO⟩ [] rfl rfl rfl (by omega) (by omega) dM_load_112
            · replace hR := hR.trans (if_pos h32)
              refine lv_aload_n hx hb dM_load_92 rfl (lv_at hl 0 rfl) ?_
              refine lv_iconst (v := nI 2) hx hb dM_load_93 (by decide) ?_
              refine mp_i (cx := []) (wr := []) hP hD hS hA [] [] rfl rfl rfl (by decide) (va_runV (As := [.int (nI 2)]) (rest := []) F (N_M_fail l g _ T q32.2 pl hO hU h0 (nI 2) tp rs ks k_h0 hf57 hf58 hf59) (cwV 1 hts (wg_app (wg_c kw_1577 (wg_c kw_1579 (wg_c ks_50 (wg_c kw_9 wg_n)))) kw_1580) rfl rfl rfl (by decide +kernel) ⟨by decide, by decide⟩) (pn_W "LatticeKeysModel" (en_ok g) (ci := 8) (kn := 148) (fl := [(0, 0), (0, 0), (0, 0), (0, 0), (3, 149), (3, 150), (3, 151), (3, 152), (3, 161), (3, 170), (3, 171), (3, 172), (3, 184), (3, 225)]) hK hO k_h0 rfl hP hD hS hA hE [] rfl rfl rfl) rfl rfl hl.1 rfl (lv_room (Nat.le_of_ble_eq_true rfl)) dM_load_94 ⟨by omega, by omega⟩) (fun r47 u37 H locs hu37 hP hD hS => ?_)
              obtain ⟨q37, pl⟩ := u37
              obtain ⟨⟨eq37, rfl, hFc37, ⟨x61, hx_61, hb_61⟩, ⟨x62, hx_62, hb_62⟩, ⟨x63, hx_63, hb_63⟩, -⟩, hO⟩ := hu37
              have hO : okn g T q37.2 pl := hO
              have hP : va_P g.1 vcl ([] ++ pl) _ := hP
              have hD : va_D _ ([] ++ pl) := hD
              have hFc37 : frm (M_M_fail) q32.2 q37.2 := hFc37
              have hb_61 : x61 = tp := hb_61
              have hb_62 : x62 = rs := hb_62
              have hb_63 : x63 = ks := hb_63
              replace hR := bnd_step hR eq37
              have hF := frm_tr hF hFc37 (fun k hk => by unfold M_M_fail at hk; unfold M_M_load; omega)
              have hg59 : SETS ks (q37.2.1 170) := by rw [hFc37 170 (by unfold M_M_fail; omega)]; exact hg47
              have hg60 : HIDS ks (q37.2.1 171) := by rw [hFc37 171 (by unfold M_M_fail; omega)]; exact hg48
              refine W.widen (k := 0) (n := 0) (by omega) (by omega) ?_
              exact mp_iret hx hb hr hlk hP hD hS ((q37.1, q37.2), pl) ⟨⟨hR.symm, rfl, hF, ⟨x61, hx_61, by omega⟩, ⟨x62, hx_62, by omega⟩, ⟨x63, hx_63, by omega⟩, ⟨ks, (hx_63).trans (congrArg nI (show x63 = ks by omega)), by omega, hg59, hg60⟩, trivial⟩, hO⟩ [] rfl rfl rfl (by omega) (by omega) dM_load_97
          · replace hR := hR.trans (if_neg h30)
            refine lv_aload_n hx hb dM_load_44 rfl (lv_at hl 0 rfl) ?_
            refine lv_iconst (v := nI 1) hx hb dM_load_45 (by decide) ?_
            refine mp_i (cx := []) (wr := []) hP hD hS hA [] [] rfl rfl rfl (by decide) (va_runV (As := [.int (nI 1)]) (rest := []) F (N_M_fail l g _ T q31.2 pl hO hU h0 (nI 1) tp rs ks k_h0 hf53 hf54 hf55) (cwV 1 hts (wg_app (wg_c kw_1577 (wg_c kw_1579 (wg_c ks_50 (wg_c kw_9 wg_n)))) kw_1580) rfl rfl rfl (by decide +kernel) ⟨by decide, by decide⟩) (pn_W "LatticeKeysModel" (en_ok g) (ci := 8) (kn := 148) (fl := [(0, 0), (0, 0), (0, 0), (0, 0), (3, 149), (3, 150), (3, 151), (3, 152), (3, 161), (3, 170), (3, 171), (3, 172), (3, 184), (3, 225)]) hK hO k_h0 rfl hP hD hS hA hE [] rfl rfl rfl) rfl rfl hl.1 rfl (lv_room (Nat.le_of_ble_eq_true rfl)) dM_load_46 ⟨by omega, by omega⟩) (fun r48 u38 H locs hu38 hP hD hS => ?_)
            obtain ⟨q38, pl⟩ := u38
            obtain ⟨⟨eq38, rfl, hFc38, ⟨x65, hx_65, hb_65⟩, ⟨x66, hx_66, hb_66⟩, ⟨x67, hx_67, hb_67⟩, -⟩, hO⟩ := hu38
            have hO : okn g T q38.2 pl := hO
            have hP : va_P g.1 vcl ([] ++ pl) _ := hP
            have hD : va_D _ ([] ++ pl) := hD
            have hFc38 : frm (M_M_fail) q31.2 q38.2 := hFc38
            have hb_65 : x65 = tp := hb_65
            have hb_66 : x66 = rs := hb_66
            have hb_67 : x67 = ks := hb_67
            replace hR := bnd_step hR eq38
            have hF := frm_tr hF hFc38 (fun k hk => by unfold M_M_fail at hk; unfold M_M_load; omega)
            have hg61 : SETS ks (q38.2.1 170) := by rw [hFc38 170 (by unfold M_M_fail; omega)]; exact hg45
            have hg62 : HIDS ks (q38.2.1 171) := by rw [hFc38 171 (by unfold M_M_fail; omega)]; exact hg46
            refine W.widen (k := 0) (n := 0) (by omega) (by omega) ?_
            exact mp_iret hx hb hr hlk hP hD hS ((q38.1, q38.2), pl) ⟨⟨hR.symm, rfl, hF, ⟨x65, hx_65, by omega⟩, ⟨x66, hx_66, by omega⟩, ⟨x67, hx_67, by omega⟩, ⟨ks, (hx_67).trans (congrArg nI (show x67 = ks by omega)), by omega, hg61, hg62⟩, trivial⟩, hO⟩ [] rfl rfl rfl (by omega) (by omega) dM_load_49
        replace hR := hR.trans (if_neg hs22)
        by_cases hs23 : z21 = 2
        · replace hR := hR.trans (if_pos hs23)
          subst hs23
          refine lv_aload_n hx hb dM_load_22 rfl (lv_at hl 0 rfl) ?_
          refine nw_get (C := "LatticeKeysModel") (TT := T_M) (N := 14) hx hb hts (wg_ft i_M) hown hK hO k_h0 (kn := 148) (ci := 8) (fl := [(0, 0), (0, 0), (0, 0), (0, 0), (3, 149), (3, 150), (3, 151), (3, 152), (3, 161), (3, 170), (3, 171), (3, 172), (3, 184), (3, 225)]) rfl hP rfl 1 (by decide) (hts _ (wg_t kw_1527)) (fun _ h9 => h9) (cd := (0, 0)) rfl dM_load_23 (fun v35 hv36 => ?_)
          obtain rfl := (show v35 = .int (s21.1 148 1) from hv36)
          obtain ⟨z34, ez34, hz46, hz47⟩ := cl_of (b := 2147483648) hf21 (by omega) (by decide)
          replace hR := bnd_step hR ez34
          refine mi_as hz46 ?_
          refine lv_iload_n hx hb dM_load_26 rfl (lv_at hl 2 rfl) ?_
          refine lv_if_eq (tgt := 37) hx hb dM_load_27 (by decide) (fun h9 => ?_) (fun h9 => absurd h22 h9)
          refine lv_iload_n hx hb dM_load_37 rfl (lv_at hl 1 rfl) ?_
          refine mp_i (cx := []) (wr := []) hP hD hS hA [] [] rfl rfl rfl (by decide) (va_runS (As := [.int (nI 2)]) (rest := [.int (nI z34)]) F (N_M_openSize_2 l g _ T s21 pl hO hU ) (va_cwS 1 hts (wg_app (wg_c kw_1764 (wg_c kw_1765 (wg_c kw_9 wg_n))) kw_1766) rfl rfl rfl (by decide +kernel) ⟨by decide, by decide⟩) (pp_S (en_ok g) hP hD hS hA hE [] rfl rfl) rfl rfl hl.1 rfl (lv_room (Nat.le_of_ble_eq_true rfl)) dM_load_38 ⟨by omega, by omega⟩) (fun r49 u39 H locs hu39 hP hD hS => ?_)
          obtain ⟨q39, pl⟩ := u39
          obtain ⟨⟨eq39, rfl, hFc39, ⟨x69, hx_69, hb_69⟩, hxp39, -⟩, hO⟩ := hu39
          have hO : okn g T q39.2 pl := hO
          have hP : va_P g.1 vcl ([] ++ pl) _ := hP
          have hD : va_D _ ([] ++ pl) := hD
          have hFc39 : frm (M_M_openSize_2) s21 q39.2 := hFc39
          have hb_69 : x69 < 1569 := hb_69
          replace hR := bnd_step hR eq39
          have hF := frm_tr hF hFc39 (fun k hk => by unfold M_M_openSize_2 at hk; unfold M_M_load; omega)
          have hf81 : q39.2.1 148 1 = nI tp := fc_F hf21 hFc39 (by unfold M_M_openSize_2; omega)
          have hf82 : q39.2.1 148 2 = nI rs := fc_F hf22 hFc39 (by unfold M_M_openSize_2; omega)
          have hf83 : q39.2.1 148 3 = nI ks := fc_F hf23 hFc39 (by unfold M_M_openSize_2; omega)
          have hf84 : q39.2.1 148 0 = nI 0 := fc_F hf24 hFc39 (by unfold M_M_openSize_2; omega)
          have hg63 : SETS ks (q39.2.1 170) := by rw [hFc39 170 (by unfold M_M_openSize_2; omega)]; exact hg21
          have hg64 : HIDS ks (q39.2.1 171) := by rw [hFc39 171 (by unfold M_M_openSize_2; omega)]; exact hg22
          obtain ⟨z35, ez35, hz48, hz49⟩ := cl_of (b := 2147483648) hx_69 (by omega) (by decide)
          replace hR := bnd_step hR ez35
          refine mi_as hz48 ?_
          have hsz27 : z35 = 1568 := (nI_eq (by omega) (by omega)).mp (hz48.symm.trans hxp39)
          subst hsz27
          refine W.widen (k := 0) (n := 0) (by omega) (by omega) ?_
          refine mi_eq (tgt := 50) hx hb dM_load_41 (by decide) (by omega) (by omega) (fun h36 => ?_) (fun h36 => ?_)
          · replace hR := hR.trans (if_pos h36)
            refine lv_iload_n hx hb dM_load_50 rfl (lv_at hl 1 rfl) ?_
            refine lv_iconst (v := nI 3) hx hb dM_load_51 (by decide) ?_
            refine mi_ge (tgt := 98) hx hb dM_load_52 (by decide) (by omega) (by omega) (fun h37 => absurd h37 (by omega)) (fun h37 => ?_)
            refine lv_iload_n hx hb dM_load_55 rfl (lv_at hl 2 rfl) ?_
            refine lv_if_eq (tgt := 77) hx hb dM_load_56 (by decide) (fun h9 => ?_) (fun h9 => absurd h22 h9)
            refine lv_aload_n hx hb dM_load_77 rfl (lv_at hl 0 rfl) ?_
            refine nw_get (C := "LatticeKeysModel") (TT := T_M) (N := 14) hx hb hts (wg_ft i_M) hown hK hO k_h0 (kn := 148) (ci := 8) (fl := [(0, 0), (0, 0), (0, 0), (0, 0), (3, 149), (3, 150), (3, 151), (3, 152), (3, 161), (3, 170), (3, 171), (3, 172), (3, 184), (3, 225)]) rfl hP rfl 12 (by decide) (hts _ (wg_t kw_1538)) (fun _ h9 => h9) (cd := (3, 184)) rfl dM_load_78 (fun v36 hv37 => ?_)
            obtain ⟨r50, rfl, kr31⟩ := (show ∃ r : Nat, v36 = .ref r ∧ T r = some 184 from hv37)
            refine lv_iload_n hx hb dM_load_81 rfl (lv_at hl 1 rfl) ?_
            refine lv_aload_n hx hb dM_load_82 rfl (lv_at hl 0 rfl) ?_
            refine nw_get (C := "LatticeKeysModel") (TT := T_M) (N := 14) hx hb hts (wg_ft i_M) hown hK hO k_h0 (kn := 148) (ci := 8) (fl := [(0, 0), (0, 0), (0, 0), (0, 0), (3, 149), (3, 150), (3, 151), (3, 152), (3, 161), (3, 170), (3, 171), (3, 172), (3, 184), (3, 225)]) rfl hP rfl 4 (by decide) (hts _ (wg_t kw_1530)) (fun _ h9 => h9) (cd := (3, 149)) rfl dM_load_83 (fun v37 hv38 => ?_)
            obtain ⟨r51, rfl, kr32⟩ := (show ∃ r : Nat, v37 = .ref r ∧ T r = some 149 from hv38)
            refine mp_i (cx := []) (wr := []) hP hD hS hA [] [] rfl rfl rfl (by decide) (va_runV (As := [.int (nI 2), .ref r51]) (rest := []) F (N_ME_goodOpen_2 l g _ T q39.2 pl hO hU r50 r51 149 kr31 kr32 rfl) (cwV 2 hts (wg_app (wg_c kw_1773 (wg_c kw_1774 (wg_c kw_1775 (wg_c kw_11 wg_n)))) kw_1776) rfl rfl rfl (by decide +kernel) ⟨by decide, by decide⟩) (pn_W "LatticeKeysModel$Secrets" (en_ok g) (ci := 11) (kn := 184) (fl := [(3, 172), (3, 178), (3, 185), (3, 202), (3, 207), (3, 212), (3, 217), (3, 218), (3, 219), (3, 220), (3, 221), (3, 222), (3, 223), (3, 224)]) hK hO kr31 rfl hP hD hS hA hE [] rfl rfl rfl) rfl rfl hl.1 rfl (lv_room (Nat.le_of_ble_eq_true rfl)) dM_load_86 ⟨by omega, by omega⟩) (fun r52 u40 H locs hu40 hP hD hS => ?_)
            obtain ⟨q40, pl⟩ := u40
            obtain ⟨⟨eq40, rfl, hFc40, -⟩, hO⟩ := hu40
            have hO : okn g T q40.2 pl := hO
            have hP : va_P g.1 vcl ([] ++ pl) _ := hP
            have hD : va_D _ ([] ++ pl) := hD
            have hFc40 : frm (M_ME_goodOpen_2) q39.2 q40.2 := hFc40
            replace hR := bnd_step hR eq40
            have hF := frm_tr hF hFc40 (fun k hk => by unfold M_ME_goodOpen_2 at hk; unfold M_M_load; omega)
            have hf85 : q40.2.1 148 1 = nI tp := fc_F hf81 hFc40 (by unfold M_ME_goodOpen_2; omega)
            have hf86 : q40.2.1 148 2 = nI rs := fc_F hf82 hFc40 (by unfold M_ME_goodOpen_2; omega)
            have hf87 : q40.2.1 148 3 = nI ks := fc_F hf83 hFc40 (by unfold M_ME_goodOpen_2; omega)
            have hf88 : q40.2.1 148 0 = nI 0 := fc_F hf84 hFc40 (by unfold M_ME_goodOpen_2; omega)
            have hg65 : SETS ks (q40.2.1 170) := by rw [hFc40 170 (by unfold M_ME_goodOpen_2; omega)]; exact hg63
            have hg66 : HIDS ks (q40.2.1 171) := by rw [hFc40 171 (by unfold M_ME_goodOpen_2; omega)]; exact hg64
            refine W.widen (k := 0) (n := 0) (by omega) (by omega) ?_
            refine lv_if_ne (tgt := 98) hx hb dM_load_89 (by decide) (fun h38 => ?_) (fun h38 => ?_)
            · replace hR := hR.trans (if_neg h38)
              refine lv_aload_n hx hb dM_load_98 rfl (lv_at hl 0 rfl) ?_
              refine nw_get (C := "LatticeKeysModel") (TT := T_M) (N := 14) hx hb hts (wg_ft i_M) hown hK hO k_h0 (kn := 148) (ci := 8) (fl := [(0, 0), (0, 0), (0, 0), (0, 0), (3, 149), (3, 150), (3, 151), (3, 152), (3, 161), (3, 170), (3, 171), (3, 172), (3, 184), (3, 225)]) rfl hP rfl 3 (by decide) (hts _ (wg_t kw_1529)) (fun _ h9 => h9) (cd := (0, 0)) rfl dM_load_99 (fun v38 hv39 => ?_)
              obtain rfl := (show v38 = .int (q40.2.1 148 3) from hv39)
              obtain ⟨z36, ez36, hz50, hz51⟩ := cl_of (b := 2147483648) hf87 (by omega) (by decide)
              replace hR := bnd_step hR ez36
              refine mi_as hz50 ?_
              refine lv_bipush (v := nI 8) hx hb dM_load_102 (by decide) ?_
              refine mi_ne (tgt := 113) hx hb dM_load_104 (by decide) (by omega) (by omega) (fun h39 => ?_) (fun h39 => ?_)
              · replace hR := hR.trans (if_neg h39)
                refine lv_iload_n hx hb dM_load_113 rfl (lv_at hl 2 rfl) ?_
                refine lv_if_eq (tgt := 127) hx hb dM_load_114 (by decide) (fun h9 => ?_) (fun h9 => absurd h22 h9)
                refine lv_iconst (v := nI 0) hx hb dM_load_127 (by decide) ?_
                refine lv_istore_n (lv' := [(3, .int (nI 0)), (0, .ref h0), (1, .int (nI 2)), (2, .int sc)]) hx hb dM_load_128 rfl hl (by decide) rfl (fun ls hl => ?_)
                refine lv_iconst (v := nI 0) hx hb dM_load_129 (by decide) ?_
                refine lv_istore (lv' := [(4, .int (nI 0)), (3, .int (nI 0)), (0, .ref h0), (1, .int (nI 2)), (2, .int sc)]) hx hb dM_load_130 hl (by decide) rfl (fun ls hl => ?_)
                have lp23 : ∀ (n23 : Nat) (i23 : Nat) (s26 : Sto) (pl : va_W) (ls : Array Slot) (H : Heap) (locs : List Loc), n23 + i23 = 1568 → frm (M_M_load) s s26 → s26.1 148 1 = nI tp → s26.1 148 2 = nI rs → s26.1 148 3 = nI ks → s26.1 148 0 = nI 0 → (SETS ks (s26.1 170)) → (HIDS ks (s26.1 171)) → F_M_load v sc s = F_M_load_L2 n23 i23 s26 → lv_has ls 5 [(4, .int (nI i23)), (3, .int (nI 0)), (0, .ref h0), (1, .int (nI 2)), (2, .int sc)] → okn g T s26 pl → va_P g.1 vcl ([] ++ pl) H → va_D A ([] ++ pl) → va_S A s0.heap H locs → W p l e ({ frames := 6, cells := 0, slots := 0, locals := 139 } : Room) s0 m args below meth c H locs 0 0 (MQ below (va_Qi (fun (r : Int32) (u : (Int32 × Sto) × va_W) => (u.1 = F_M_load v sc s ∧ r = u.1.1 ∧ frm (M_M_load) s u.1.2 ∧ (∃ x : Nat, u.1.2.1 148 1 = nI x ∧ x ≤ 16384) ∧ (∃ x : Nat, u.1.2.1 148 2 = nI x ∧ x ≤ 8192) ∧ (∃ x : Nat, u.1.2.1 148 3 = nI x ∧ x ≤ 8) ∧ (∃ x : Nat, u.1.2.1 148 3 = nI x ∧ x ≤ 8 ∧ SETS x (u.1.2.1 170) ∧ HIDS x (u.1.2.1 171)) ∧ True) ∧ okn g T u.1.2 u.2) (po g.1 vcl A (fun (u : (Int32 × Sto) × va_W) => [] ++ u.2)) A) args s0 0 0 A) (F0 m 132 ls []) := by
                  intro n23
                  induction n23 with
                  | zero =>
                    intro i23 s26 pl ls H locs hm23 hF hf89 hf90 hf91 hf92 hg67 hg68 hR hl hO hP hD hS
                    refine lv_iload hx hb dM_load_132 (lv_at hl 0 rfl) ?_
                    refine lv_iload_n hx hb dM_load_134 rfl (lv_at hl 3 rfl) ?_
                    refine mp_i (cx := []) (wr := []) hP hD hS hA [] [] rfl rfl rfl (by decide) (va_runS (As := [.int (nI 2)]) (rest := [.int (nI i23)]) F (N_M_openSize_2 l g _ T s26 pl hO hU ) (va_cwS 1 hts (wg_app (wg_c kw_1764 (wg_c kw_1765 (wg_c kw_9 wg_n))) kw_1766) rfl rfl rfl (by decide +kernel) ⟨by decide, by decide⟩) (pp_S (en_ok g) hP hD hS hA hE [] rfl rfl) rfl rfl hl.1 rfl (lv_room (Nat.le_of_ble_eq_true rfl)) dM_load_135 ⟨by omega, by omega⟩) (fun r53 u41 H locs hu41 hP hD hS => ?_)
                    obtain ⟨q41, pl⟩ := u41
                    obtain ⟨⟨eq41, rfl, hFc41, ⟨x71, hx_71, hb_71⟩, hxp41, -⟩, hO⟩ := hu41
                    have hO : okn g T q41.2 pl := hO
                    have hP : va_P g.1 vcl ([] ++ pl) _ := hP
                    have hD : va_D _ ([] ++ pl) := hD
                    have hFc41 : frm (M_M_openSize_2) s26 q41.2 := hFc41
                    have hb_71 : x71 < 1569 := hb_71
                    replace hR := bnd_step hR eq41
                    have hF := frm_tr hF hFc41 (fun k hk => by unfold M_M_openSize_2 at hk; unfold M_M_load; omega)
                    have hf93 : q41.2.1 148 1 = nI tp := fc_F hf89 hFc41 (by unfold M_M_openSize_2; omega)
                    have hf94 : q41.2.1 148 2 = nI rs := fc_F hf90 hFc41 (by unfold M_M_openSize_2; omega)
                    have hf95 : q41.2.1 148 3 = nI ks := fc_F hf91 hFc41 (by unfold M_M_openSize_2; omega)
                    have hf96 : q41.2.1 148 0 = nI 0 := fc_F hf92 hFc41 (by unfold M_M_openSize_2; omega)
                    have hg69 : SETS ks (q41.2.1 170) := by rw [hFc41 170 (by unfold M_M_openSize_2; omega)]; exact hg67
                    have hg70 : HIDS ks (q41.2.1 171) := by rw [hFc41 171 (by unfold M_M_openSize_2; omega)]; exact hg68
                    obtain ⟨z37, ez37, hz52, hz53⟩ := cl_of (b := 2147483648) hx_71 (by omega) (by decide)
                    replace hR := bnd_step hR ez37
                    refine mi_as hz52 ?_
                    have hsz28 : z37 = 1568 := (nI_eq (by omega) (by omega)).mp (hz52.symm.trans hxp41)
                    subst hsz28
                    refine W.widen (k := 0) (n := 0) (by omega) (by omega) ?_
                    refine mi_ge (tgt := 168) hx hb dM_load_138 (by decide) (by omega) (by omega) (fun h40 => ?_) (fun h40 => absurd h40 (by omega))
                    refine lv_iconst (v := nI 0) hx hb dM_load_168 (by decide) ?_
                    refine lv_istore (lv' := [(4, .int (nI 0)), (3, .int (nI 0)), (0, .ref h0), (1, .int (nI 2)), (2, .int sc)]) hx hb dM_load_169 hl (by decide) rfl (fun ls hl => ?_)
                    refine lv_iload_n hx hb dM_load_171 rfl (lv_at hl 4 rfl) ?_
                    refine lv_if_eq (tgt := 209) hx hb dM_load_172 (by decide) (fun h9 => ?_) (fun h9 => absurd h22 h9)
                    refine lv_aload_n hx hb dM_load_209 rfl (lv_at hl 2 rfl) ?_
                    refine lv_iload_n hx hb dM_load_210 rfl (lv_at hl 3 rfl) ?_
                    refine lv_iload_n hx hb dM_load_211 rfl (lv_at hl 4 rfl) ?_
                    refine lv_if_eq (tgt := 222) hx hb dM_load_212 (by decide) (fun h9 => ?_) (fun h9 => absurd h22 h9)
                    refine lv_iconst (v := nI 0) hx hb dM_load_222 (by decide) ?_
                    refine mp_i (cx := []) (wr := []) hP hD hS hA [] [] rfl rfl rfl (by decide) (va_runV (As := [.int (nI 2), .int (nI 0)]) (rest := []) F (N_M_madeP l g _ T q41.2 pl hO hU h0 2 0 tp rs ks k_h0 hf93 hf94 hf95 (by omega) (by omega) (by omega) hg69 hg70) (cwV 2 hts (wg_app (wg_c kw_1756 (wg_c kw_1758 (wg_c ks_64 (wg_c kw_9 wg_n)))) kw_1759) rfl rfl rfl (by decide +kernel) ⟨by decide, by decide⟩) (pn_W "LatticeKeysModel" (en_ok g) (ci := 8) (kn := 148) (fl := [(0, 0), (0, 0), (0, 0), (0, 0), (3, 149), (3, 150), (3, 151), (3, 152), (3, 161), (3, 170), (3, 171), (3, 172), (3, 184), (3, 225)]) hK hO k_h0 rfl hP hD hS hA hE [] rfl rfl rfl) rfl rfl hl.1 rfl (lv_room (Nat.le_of_ble_eq_true rfl)) dM_load_223 ⟨by omega, by omega⟩) (fun r54 u42 H locs hu42 hP hD hS => ?_)
                    obtain ⟨q42, pl⟩ := u42
                    obtain ⟨⟨eq42, rfl, hFc42, ⟨x72, hx_72, hb_72⟩, ⟨x73, hx_73, hb_73⟩, ⟨x74, hx_74, hb_74⟩, hxp42, -⟩, hO⟩ := hu42
                    have hO : okn g T q42.2 pl := hO
                    have hP : va_P g.1 vcl ([] ++ pl) _ := hP
                    have hD : va_D _ ([] ++ pl) := hD
                    have hFc42 : frm (M_M_madeP) q41.2 q42.2 := hFc42
                    have hb_72 : x72 = 0 := hb_72
                    have hb_73 : x73 = rs := hb_73
                    have hb_74 : x74 = ks + 1 := hb_74
                    replace hR := bnd_step hR eq42
                    have hF := frm_tr hF hFc42 (fun k hk => by unfold M_M_madeP at hk; unfold M_M_load; omega)
                    refine W.widen (k := 0) (n := 0) (by omega) (by omega) ?_
                    exact mp_iret hx hb hr hlk hP hD hS ((q42.1, q42.2), pl) ⟨⟨hR.symm, rfl, hF, ⟨x72, hx_72, by omega⟩, ⟨x73, hx_73, by omega⟩, ⟨x74, hx_74, by omega⟩, (by obtain ⟨x9, h9, e9, a9, b9⟩ := hxp42; subst e9; exact ⟨_, h9, by omega, a9, b9⟩), trivial⟩, hO⟩ [] rfl rfl rfl (by omega) (by omega) dM_load_226
                  | succ n23 ih23 =>
                    intro i23 s26 pl ls H locs hm23 hF hf97 hf98 hf99 hf100 hg67 hg68 hR hl hO hP hD hS
                    refine lv_iload hx hb dM_load_132 (lv_at hl 0 rfl) ?_
                    refine lv_iload_n hx hb dM_load_134 rfl (lv_at hl 3 rfl) ?_
                    refine mp_i (cx := []) (wr := []) hP hD hS hA [] [] rfl rfl rfl (by decide) (va_runS (As := [.int (nI 2)]) (rest := [.int (nI i23)]) F (N_M_openSize_2 l g _ T s26 pl hO hU ) (va_cwS 1 hts (wg_app (wg_c kw_1764 (wg_c kw_1765 (wg_c kw_9 wg_n))) kw_1766) rfl rfl rfl (by decide +kernel) ⟨by decide, by decide⟩) (pp_S (en_ok g) hP hD hS hA hE [] rfl rfl) rfl rfl hl.1 rfl (lv_room (Nat.le_of_ble_eq_true rfl)) dM_load_135 ⟨by omega, by omega⟩) (fun r55 u43 H locs hu43 hP hD hS => ?_)
                    obtain ⟨q43, pl⟩ := u43
                    obtain ⟨⟨eq43, rfl, hFc43, ⟨x76, hx_76, hb_76⟩, hxp43, -⟩, hO⟩ := hu43
                    have hO : okn g T q43.2 pl := hO
                    have hP : va_P g.1 vcl ([] ++ pl) _ := hP
                    have hD : va_D _ ([] ++ pl) := hD
                    have hFc43 : frm (M_M_openSize_2) s26 q43.2 := hFc43
                    have hb_76 : x76 < 1569 := hb_76
                    replace hR := bnd_step hR eq43
                    have hF := frm_tr hF hFc43 (fun k hk => by unfold M_M_openSize_2 at hk; unfold M_M_load; omega)
                    have hf101 : q43.2.1 148 1 = nI tp := fc_F hf97 hFc43 (by unfold M_M_openSize_2; omega)
                    have hf102 : q43.2.1 148 2 = nI rs := fc_F hf98 hFc43 (by unfold M_M_openSize_2; omega)
                    have hf103 : q43.2.1 148 3 = nI ks := fc_F hf99 hFc43 (by unfold M_M_openSize_2; omega)
                    have hf104 : q43.2.1 148 0 = nI 0 := fc_F hf100 hFc43 (by unfold M_M_openSize_2; omega)
                    have hg71 : SETS ks (q43.2.1 170) := by rw [hFc43 170 (by unfold M_M_openSize_2; omega)]; exact hg67
                    have hg72 : HIDS ks (q43.2.1 171) := by rw [hFc43 171 (by unfold M_M_openSize_2; omega)]; exact hg68
                    obtain ⟨z38, ez38, hz54, hz55⟩ := cl_of (b := 2147483648) hx_76 (by omega) (by decide)
                    replace hR := bnd_step hR ez38
                    refine mi_as hz54 ?_
                    have hsz29 : z38 = 1568 := (nI_eq (by omega) (by omega)).mp (hz54.symm.trans hxp43)
                    subst hsz29
                    refine W.widen (k := 0) (n := 0) (by omega) (by omega) ?_
                    refine mi_ge (tgt := 168) hx hb dM_load_138 (by decide) (by omega) (by omega) (fun h41 => absurd h41 (by omega)) (fun h41 => ?_)
                    refine lv_aload_n hx hb dM_load_141 rfl (lv_at hl 2 rfl) ?_
                    refine nw_get (C := "LatticeKeysModel") (TT := T_M) (N := 14) hx hb hts (wg_ft i_M) hown hK hO k_h0 (kn := 148) (ci := 8) (fl := [(0, 0), (0, 0), (0, 0), (0, 0), (3, 149), (3, 150), (3, 151), (3, 152), (3, 161), (3, 170), (3, 171), (3, 172), (3, 184), (3, 225)]) rfl hP rfl 7 (by decide) (hts _ (wg_t kw_1533)) (fun _ h9 => h9) (cd := (3, 152)) rfl dM_load_142 (fun v39 hv40 => ?_)
                    obtain ⟨r56, rfl, kr33⟩ := (show ∃ r : Nat, v39 = .ref r ∧ T r = some 152 from hv40)
                    refine lv_aload_n hx hb dM_load_145 rfl (lv_at hl 2 rfl) ?_
                    refine nw_get (C := "LatticeKeysModel") (TT := T_M) (N := 14) hx hb hts (wg_ft i_M) hown hK hO k_h0 (kn := 148) (ci := 8) (fl := [(0, 0), (0, 0), (0, 0), (0, 0), (3, 149), (3, 150), (3, 151), (3, 152), (3, 161), (3, 170), (3, 171), (3, 172), (3, 184), (3, 225)]) rfl hP rfl 3 (by decide) (hts _ (wg_t kw_1529)) (fun _ h9 => h9) (cd := (0, 0)) rfl dM_load_146 (fun v40 hv41 => ?_)
                    obtain rfl := (show v40 = .int (q43.2.1 148 3) from hv41)
                    obtain ⟨z39, ez39, hz56, hz57⟩ := cl_of (b := 2147483648) hf103 (by omega) (by decide)
                    replace hR := bnd_step hR ez39
                    refine mi_as hz56 ?_
                    refine nw_aald4 hx hb hK hO kr33 (k := 152) (b := 153) rfl hP (by omega) (by omega) dM_load_149 (fun r57 kr34 => ?_)
                    have hn23 : nsp (153 + z39) = (1, 2592, []) := rows_okb 153 8 2592 (by decide) _ (by omega)
                    refine lv_iload hx hb dM_load_150 (lv_at hl 0 rfl) ?_
                    refine lv_aload_n hx hb dM_load_152 rfl (lv_at hl 2 rfl) ?_
                    refine nw_get (C := "LatticeKeysModel") (TT := T_M) (N := 14) hx hb hts (wg_ft i_M) hown hK hO k_h0 (kn := 148) (ci := 8) (fl := [(0, 0), (0, 0), (0, 0), (0, 0), (3, 149), (3, 150), (3, 151), (3, 152), (3, 161), (3, 170), (3, 171), (3, 172), (3, 184), (3, 225)]) rfl hP rfl 4 (by decide) (hts _ (wg_t kw_1530)) (fun _ h9 => h9) (cd := (3, 149)) rfl dM_load_153 (fun v41 hv42 => ?_)
                    obtain ⟨r58, rfl, kr35⟩ := (show ∃ r : Nat, v41 = .ref r ∧ T r = some 149 from hv42)
                    refine lv_iload_n hx hb dM_load_156 rfl (lv_at hl 1 rfl) ?_
                    refine lv_iload hx hb dM_load_157 (lv_at hl 0 rfl) ?_
                    refine mi_iadd hx hb dM_load_159 ?_
                    refine nw_bald hx hb hK hO kr35 (k := 149) rfl hP (by omega) (by omega) dM_load_160 ?_
                    refine nw_bast hx hb hK hO hU kr34 (k := (153 + z39)) hn23 hP hD hS (by omega) (by omega) dM_load_161 (fun s27 pl H locs es24 hO hP hD hS => ?_)
                    replace hR := bnd_step hR es24
                    have hF := frm_sB hF es24 (by unfold M_M_load; omega)
                    have hf105 : s27.1 148 1 = nI tp := fc_B hf101 es24 (by omega)
                    have hf106 : s27.1 148 2 = nI rs := fc_B hf102 es24 (by omega)
                    have hf107 : s27.1 148 3 = nI ks := fc_B hf103 es24 (by omega)
                    have hf108 : s27.1 148 0 = nI 0 := fc_B hf104 es24 (by omega)
                    have hg73 : SETS ks (s27.1 170) := by rw [(ar_sB es24 (by omega))]; exact hg71
                    have hg74 : HIDS ks (s27.1 171) := by rw [(ar_sB es24 (by omega))]; exact hg72
                    refine mi_iinc (k := 0) (x := i23) (d := 1) (y := i23 + 1) (lv' := [(4, .int (nI (i23 + 1))), (3, .int (nI 0)), (0, .ref h0), (1, .int (nI 2)), (2, .int sc)]) hx hb dM_load_162 hl rfl (by decide) rfl (by decide) rfl (fun ls hl => ?_)
                    refine lv_goto (tgt := 132) hx hb dM_load_165 (by decide) ?_
                    exact ih23 (i23 + 1) s27 pl ls H locs (by omega) hF hf105 hf106 hf107 hf108 hg73 hg74 hR (lv_sub hl [0, 1, 2, 3, 4] rfl) hO hP hD hS
                exact lp23 1568 0 q40.2 pl ls _ _ (by omega) hF hf85 hf86 hf87 hf88 hg65 hg66 hR (lv_sub hl [0, 1, 2, 3, 4] rfl) hO hP hD hS
              · replace hR := hR.trans (if_pos h39)
                refine lv_aload_n hx hb dM_load_107 rfl (lv_at hl 0 rfl) ?_
                refine lv_iconst (v := nI 3) hx hb dM_load_108 (by decide) ?_
                refine mp_i (cx := []) (wr := []) hP hD hS hA [] [] rfl rfl rfl (by decide) (va_runV (As := [.int (nI 3)]) (rest := []) F (N_M_fail l g _ T q40.2 pl hO hU h0 (nI 3) tp rs ks k_h0 hf85 hf86 hf87) (cwV 1 hts (wg_app (wg_c kw_1577 (wg_c kw_1579 (wg_c ks_50 (wg_c kw_9 wg_n)))) kw_1580) rfl rfl rfl (by decide +kernel) ⟨by decide, by decide⟩) (pn_W "LatticeKeysModel" (en_ok g) (ci := 8) (kn := 148) (fl := [(0, 0), (0, 0), (0, 0), (0, 0), (3, 149), (3, 150), (3, 151), (3, 152), (3, 161), (3, 170), (3, 171), (3, 172), (3, 184), (3, 225)]) hK hO k_h0 rfl hP hD hS hA hE [] rfl rfl rfl) rfl rfl hl.1 rfl (lv_room (Nat.le_of_ble_eq_true rfl)) dM_load_109 ⟨by omega, by omega⟩) (fun r59 u44 H locs hu44 hP hD hS => ?_)
                obtain ⟨q44, pl⟩ := u44
                obtain ⟨⟨eq44, rfl, hFc44, ⟨x77, hx_77, hb_77⟩, ⟨x78, hx_78, hb_78⟩, ⟨x79, hx_79, hb_79⟩, -⟩, hO⟩ := hu44
                have hO : okn g T q44.2 pl := hO
                have hP : va_P g.1 vcl ([] ++ pl) _ := hP
                have hD : va_D _ ([] ++ pl) := hD
                have hFc44 : frm (M_M_fail) q40.2 q44.2 := hFc44
                have hb_77 : x77 = tp := hb_77
                have hb_78 : x78 = rs := hb_78
                have hb_79 : x79 = ks := hb_79
                replace hR := bnd_step hR eq44
                have hF := frm_tr hF hFc44 (fun k hk => by unfold M_M_fail at hk; unfold M_M_load; omega)
                have hg75 : SETS ks (q44.2.1 170) := by rw [hFc44 170 (by unfold M_M_fail; omega)]; exact hg65
                have hg76 : HIDS ks (q44.2.1 171) := by rw [hFc44 171 (by unfold M_M_fail; omega)]; exact hg66
                refine W.widen (k := 0) (n := 0) (by omega) (by omega) ?_
                exact mp_iret hx hb hr hlk hP hD hS ((q44.1, q44.2), pl) ⟨⟨hR.symm, rfl, hF, ⟨x77, hx_77, by omega⟩, ⟨x78, hx_78, by omega⟩, ⟨x79, hx_79, by omega⟩, ⟨ks, (hx_79).trans (congrArg nI (show x79 = ks by omega)), by omega, hg75, hg76⟩, trivial⟩, hO⟩ [] rfl rfl rfl (by omega) (by omega) dM_load_112
            · replace hR := hR.trans (if_pos h38)
              refine lv_aload_n hx hb dM_load_92 rfl (lv_at hl 0 rfl) ?_
              refine lv_iconst (v := nI 2) hx hb dM_load_93 (by decide) ?_
              refine mp_i (cx := []) (wr := []) hP hD hS hA [] [] rfl rfl rfl (by decide) (va_runV (As := [.int (nI 2)]) (rest := []) F (N_M_fail l g _ T q40.2 pl hO hU h0 (nI 2) tp rs ks k_h0 hf85 hf86 hf87) (cwV 1 hts (wg_app (wg_c kw_1577 (wg_c kw_1579 (wg_c ks_50 (wg_c kw_9 wg_n)))) kw_1580) rfl rfl rfl (by decide +kernel) ⟨by decide, by decide⟩) (pn_W "LatticeKeysModel" (en_ok g) (ci := 8) (kn := 148) (fl := [(0, 0), (0, 0), (0, 0), (0, 0), (3, 149), (3, 150), (3, 151), (3, 152), (3, 161), (3, 170), (3, 171), (3, 172), (3, 184), (3, 225)]) hK hO k_h0 rfl hP hD hS hA hE [] rfl rfl rfl) rfl rfl hl.1 rfl (lv_room (Nat.le_of_ble_eq_true rfl)) dM_load_94 ⟨by omega, by omega⟩) (fun r60 u45 H locs hu45 hP hD hS => ?_)
              obtain ⟨q45, pl⟩ := u45
              obtain ⟨⟨eq45, rfl, hFc45, ⟨x81, hx_81, hb_81⟩, ⟨x82, hx_82, hb_82⟩, ⟨x83, hx_83, hb_83⟩, -⟩, hO⟩ := hu45
              have hO : okn g T q45.2 pl := hO
              have hP : va_P g.1 vcl ([] ++ pl) _ := hP
              have hD : va_D _ ([] ++ pl) := hD
              have hFc45 : frm (M_M_fail) q40.2 q45.2 := hFc45
              have hb_81 : x81 = tp := hb_81
              have hb_82 : x82 = rs := hb_82
              have hb_83 : x83 = ks := hb_83
              replace hR := bnd_step hR eq45
              have hF := frm_tr hF hFc45 (fun k hk => by unfold M_M_fail at hk; unfold M_M_load; omega)
              have hg77 : SETS ks (q45.2.1 170) := by rw [hFc45 170 (by unfold M_M_fail; omega)]; exact hg65
              have hg78 : HIDS ks (q45.2.1 171) := by rw [hFc45 171 (by unfold M_M_fail; omega)]; exact hg66
              refine W.widen (k := 0) (n := 0) (by omega) (by omega) ?_
              exact mp_iret hx hb hr hlk hP hD hS ((q45.1, q45.2), pl) ⟨⟨hR.symm, rfl, hF, ⟨x81, hx_81, by omega⟩, ⟨x82, hx_82, by omega⟩, ⟨x83, hx_83, by omega⟩, ⟨ks, (hx_83).trans (congrArg nI (show x83 = ks by omega)), by omega, hg77, hg78⟩, trivial⟩, hO⟩ [] rfl rfl rfl (by omega) (by omega) dM_load_97
          · replace hR := hR.trans (if_neg h36)
            refine lv_aload_n hx hb dM_load_44 rfl (lv_at hl 0 rfl) ?_
            refine lv_iconst (v := nI 1) hx hb dM_load_45 (by decide) ?_
            refine mp_i (cx := []) (wr := []) hP hD hS hA [] [] rfl rfl rfl (by decide) (va_runV (As := [.int (nI 1)]) (rest := []) F (N_M_fail l g _ T q39.2 pl hO hU h0 (nI 1) tp rs ks k_h0 hf81 hf82 hf83) (cwV 1 hts (wg_app (wg_c kw_1577 (wg_c kw_1579 (wg_c ks_50 (wg_c kw_9 wg_n)))) kw_1580) rfl rfl rfl (by decide +kernel) ⟨by decide, by decide⟩) (pn_W "LatticeKeysModel" (en_ok g) (ci := 8) (kn := 148) (fl := [(0, 0), (0, 0), (0, 0), (0, 0), (3, 149), (3, 150), (3, 151), (3, 152), (3, 161), (3, 170), (3, 171), (3, 172), (3, 184), (3, 225)]) hK hO k_h0 rfl hP hD hS hA hE [] rfl rfl rfl) rfl rfl hl.1 rfl (lv_room (Nat.le_of_ble_eq_true rfl)) dM_load_46 ⟨by omega, by omega⟩) (fun r61 u46 H locs hu46 hP hD hS => ?_)
            obtain ⟨q46, pl⟩ := u46
            obtain ⟨⟨eq46, rfl, hFc46, ⟨x85, hx_85, hb_85⟩, ⟨x86, hx_86, hb_86⟩, ⟨x87, hx_87, hb_87⟩, -⟩, hO⟩ := hu46
            have hO : okn g T q46.2 pl := hO
            have hP : va_P g.1 vcl ([] ++ pl) _ := hP
            have hD : va_D _ ([] ++ pl) := hD
            have hFc46 : frm (M_M_fail) q39.2 q46.2 := hFc46
            have hb_85 : x85 = tp := hb_85
            have hb_86 : x86 = rs := hb_86
            have hb_87 : x87 = ks := hb_87
            replace hR := bnd_step hR eq46
            have hF := frm_tr hF hFc46 (fun k hk => by unfold M_M_fail at hk; unfold M_M_load; omega)
            have hg79 : SETS ks (q46.2.1 170) := by rw [hFc46 170 (by unfold M_M_fail; omega)]; exact hg63
            have hg80 : HIDS ks (q46.2.1 171) := by rw [hFc46 171 (by unfold M_M_fail; omega)]; exact hg64
            refine W.widen (k := 0) (n := 0) (by omega) (by omega) ?_
            exact mp_iret hx hb hr hlk hP hD hS ((q46.1, q46.2), pl) ⟨⟨hR.symm, rfl, hF, ⟨x85, hx_85, by omega⟩, ⟨x86, hx_86, by omega⟩, ⟨x87, hx_87, by omega⟩, ⟨ks, (hx_87).trans (congrArg nI (show x87 = ks by omega)), by omega, hg79, hg80⟩, trivial⟩, hO⟩ [] rfl rfl rfl (by omega) (by omega) dM_load_49
        replace hR := hR.trans (if_neg hs23)
        by_cases hs24 : z21 = 3
        · replace hR := hR.trans (if_pos hs24)
          subst hs24
          refine lv_aload_n hx hb dM_load_22 rfl (lv_at hl 0 rfl) ?_
          refine nw_get (C := "LatticeKeysModel") (TT := T_M) (N := 14) hx hb hts (wg_ft i_M) hown hK hO k_h0 (kn := 148) (ci := 8) (fl := [(0, 0), (0, 0), (0, 0), (0, 0), (3, 149), (3, 150), (3, 151), (3, 152), (3, 161), (3, 170), (3, 171), (3, 172), (3, 184), (3, 225)]) rfl hP rfl 1 (by decide) (hts _ (wg_t kw_1527)) (fun _ h9 => h9) (cd := (0, 0)) rfl dM_load_23 (fun v42 hv43 => ?_)
          obtain rfl := (show v42 = .int (s21.1 148 1) from hv43)
          obtain ⟨z40, ez40, hz58, hz59⟩ := cl_of (b := 2147483648) hf21 (by omega) (by decide)
          replace hR := bnd_step hR ez40
          refine mi_as hz58 ?_
          refine lv_iload_n hx hb dM_load_26 rfl (lv_at hl 2 rfl) ?_
          refine lv_if_eq (tgt := 37) hx hb dM_load_27 (by decide) (fun h9 => ?_) (fun h9 => absurd h22 h9)
          refine lv_iload_n hx hb dM_load_37 rfl (lv_at hl 1 rfl) ?_
          refine mp_i (cx := []) (wr := []) hP hD hS hA [] [] rfl rfl rfl (by decide) (va_runS (As := [.int (nI 3)]) (rest := [.int (nI z40)]) F (N_M_openSize_3 l g _ T s21 pl hO hU ) (va_cwS 1 hts (wg_app (wg_c kw_1764 (wg_c kw_1765 (wg_c kw_9 wg_n))) kw_1766) rfl rfl rfl (by decide +kernel) ⟨by decide, by decide⟩) (pp_S (en_ok g) hP hD hS hA hE [] rfl rfl) rfl rfl hl.1 rfl (lv_room (Nat.le_of_ble_eq_true rfl)) dM_load_38 ⟨by omega, by omega⟩) (fun r62 u47 H locs hu47 hP hD hS => ?_)
          obtain ⟨q47, pl⟩ := u47
          obtain ⟨⟨eq47, rfl, hFc47, ⟨x89, hx_89, hb_89⟩, hxp47, -⟩, hO⟩ := hu47
          have hO : okn g T q47.2 pl := hO
          have hP : va_P g.1 vcl ([] ++ pl) _ := hP
          have hD : va_D _ ([] ++ pl) := hD
          have hFc47 : frm (M_M_openSize_3) s21 q47.2 := hFc47
          have hb_89 : x89 < 1313 := hb_89
          replace hR := bnd_step hR eq47
          have hF := frm_tr hF hFc47 (fun k hk => by unfold M_M_openSize_3 at hk; unfold M_M_load; omega)
          have hf109 : q47.2.1 148 1 = nI tp := fc_F hf21 hFc47 (by unfold M_M_openSize_3; omega)
          have hf110 : q47.2.1 148 2 = nI rs := fc_F hf22 hFc47 (by unfold M_M_openSize_3; omega)
          have hf111 : q47.2.1 148 3 = nI ks := fc_F hf23 hFc47 (by unfold M_M_openSize_3; omega)
          have hf112 : q47.2.1 148 0 = nI 0 := fc_F hf24 hFc47 (by unfold M_M_openSize_3; omega)
          have hg81 : SETS ks (q47.2.1 170) := by rw [hFc47 170 (by unfold M_M_openSize_3; omega)]; exact hg21
          have hg82 : HIDS ks (q47.2.1 171) := by rw [hFc47 171 (by unfold M_M_openSize_3; omega)]; exact hg22
          obtain ⟨z41, ez41, hz60, hz61⟩ := cl_of (b := 2147483648) hx_89 (by omega) (by decide)
          replace hR := bnd_step hR ez41
          refine mi_as hz60 ?_
          have hsz30 : z41 = 1312 := (nI_eq (by omega) (by omega)).mp (hz60.symm.trans hxp47)
          subst hsz30
          refine W.widen (k := 0) (n := 0) (by omega) (by omega) ?_
          refine mi_eq (tgt := 50) hx hb dM_load_41 (by decide) (by omega) (by omega) (fun h42 => ?_) (fun h42 => ?_)
          · replace hR := hR.trans (if_pos h42)
            refine lv_iload_n hx hb dM_load_50 rfl (lv_at hl 1 rfl) ?_
            refine lv_iconst (v := nI 3) hx hb dM_load_51 (by decide) ?_
            refine mi_ge (tgt := 98) hx hb dM_load_52 (by decide) (by omega) (by omega) (fun h43 => ?_) (fun h43 => absurd h43 (by omega))
            refine lv_aload_n hx hb dM_load_98 rfl (lv_at hl 0 rfl) ?_
            refine nw_get (C := "LatticeKeysModel") (TT := T_M) (N := 14) hx hb hts (wg_ft i_M) hown hK hO k_h0 (kn := 148) (ci := 8) (fl := [(0, 0), (0, 0), (0, 0), (0, 0), (3, 149), (3, 150), (3, 151), (3, 152), (3, 161), (3, 170), (3, 171), (3, 172), (3, 184), (3, 225)]) rfl hP rfl 3 (by decide) (hts _ (wg_t kw_1529)) (fun _ h9 => h9) (cd := (0, 0)) rfl dM_load_99 (fun v43 hv44 => ?_)
            obtain rfl := (show v43 = .int (q47.2.1 148 3) from hv44)
            obtain ⟨z42, ez42, hz62, hz63⟩ := cl_of (b := 2147483648) hf111 (by omega) (by decide)
            replace hR := bnd_step hR ez42
            refine mi_as hz62 ?_
            refine lv_bipush (v := nI 8) hx hb dM_load_102 (by decide) ?_
            refine mi_ne (tgt := 113) hx hb dM_load_104 (by decide) (by omega) (by omega) (fun h44 => ?_) (fun h44 => ?_)
            · replace hR := hR.trans (if_neg h44)
              refine lv_iload_n hx hb dM_load_113 rfl (lv_at hl 2 rfl) ?_
              refine lv_if_eq (tgt := 127) hx hb dM_load_114 (by decide) (fun h9 => ?_) (fun h9 => absurd h22 h9)
              refine lv_iconst (v := nI 0) hx hb dM_load_127 (by decide) ?_
              refine lv_istore_n (lv' := [(3, .int (nI 0)), (0, .ref h0), (1, .int (nI 3)), (2, .int sc)]) hx hb dM_load_128 rfl hl (by decide) rfl (fun ls hl => ?_)
              refine lv_iconst (v := nI 0) hx hb dM_load_129 (by decide) ?_
              refine lv_istore (lv' := [(4, .int (nI 0)), (3, .int (nI 0)), (0, .ref h0), (1, .int (nI 3)), (2, .int sc)]) hx hb dM_load_130 hl (by decide) rfl (fun ls hl => ?_)
              have lp24 : ∀ (n24 : Nat) (i24 : Nat) (s28 : Sto) (pl : va_W) (ls : Array Slot) (H : Heap) (locs : List Loc), n24 + i24 = 1312 → frm (M_M_load) s s28 → s28.1 148 1 = nI tp → s28.1 148 2 = nI rs → s28.1 148 3 = nI ks → s28.1 148 0 = nI 0 → (SETS ks (s28.1 170)) → (HIDS ks (s28.1 171)) → F_M_load v sc s = F_M_load_L3 n24 i24 s28 → lv_has ls 5 [(4, .int (nI i24)), (3, .int (nI 0)), (0, .ref h0), (1, .int (nI 3)), (2, .int sc)] → okn g T s28 pl → va_P g.1 vcl ([] ++ pl) H → va_D A ([] ++ pl) → va_S A s0.heap H locs → W p l e ({ frames := 6, cells := 0, slots := 0, locals := 139 } : Room) s0 m args below meth c H locs 0 0 (MQ below (va_Qi (fun (r : Int32) (u : (Int32 × Sto) × va_W) => (u.1 = F_M_load v sc s ∧ r = u.1.1 ∧ frm (M_M_load) s u.1.2 ∧ (∃ x : Nat, u.1.2.1 148 1 = nI x ∧ x ≤ 16384) ∧ (∃ x : Nat, u.1.2.1 148 2 = nI x ∧ x ≤ 8192) ∧ (∃ x : Nat, u.1.2.1 148 3 = nI x ∧ x ≤ 8) ∧ (∃ x : Nat, u.1.2.1 148 3 = nI x ∧ x ≤ 8 ∧ SETS x (u.1.2.1 170) ∧ HIDS x (u.1.2.1 171)) ∧ True) ∧ okn g T u.1.2 u.2) (po g.1 vcl A (fun (u : (Int32 × Sto) × va_W) => [] ++ u.2)) A) args s0 0 0 A) (F0 m 132 ls []) := by
                intro n24
                induction n24 with
                | zero =>
                  intro i24 s28 pl ls H locs hm24 hF hf113 hf114 hf115 hf116 hg83 hg84 hR hl hO hP hD hS
                  refine lv_iload hx hb dM_load_132 (lv_at hl 0 rfl) ?_
                  refine lv_iload_n hx hb dM_load_134 rfl (lv_at hl 3 rfl) ?_
                  refine mp_i (cx := []) (wr := []) hP hD hS hA [] [] rfl rfl rfl (by decide) (va_runS (As := [.int (nI 3)]) (rest := [.int (nI i24)]) F (N_M_openSize_3 l g _ T s28 pl hO hU ) (va_cwS 1 hts (wg_app (wg_c kw_1764 (wg_c kw_1765 (wg_c kw_9 wg_n))) kw_1766) rfl rfl rfl (by decide +kernel) ⟨by decide, by decide⟩) (pp_S (en_ok g) hP hD hS hA hE [] rfl rfl) rfl rfl hl.1 rfl (lv_room (Nat.le_of_ble_eq_true rfl)) dM_load_135 ⟨by omega, by omega⟩) (fun r63 u48 H locs hu48 hP hD hS => ?_)
                  obtain ⟨q48, pl⟩ := u48
                  obtain ⟨⟨eq48, rfl, hFc48, ⟨x90, hx_90, hb_90⟩, hxp48, -⟩, hO⟩ := hu48
                  have hO : okn g T q48.2 pl := hO
                  have hP : va_P g.1 vcl ([] ++ pl) _ := hP
                  have hD : va_D _ ([] ++ pl) := hD
                  have hFc48 : frm (M_M_openSize_3) s28 q48.2 := hFc48
                  have hb_90 : x90 < 1313 := hb_90
                  replace hR := bnd_step hR eq48
                  have hF := frm_tr hF hFc48 (fun k hk => by unfold M_M_openSize_3 at hk; unfold M_M_load; omega)
                  have hf117 : q48.2.1 148 1 = nI tp := fc_F hf113 hFc48 (by unfold M_M_openSize_3; omega)
                  have hf118 : q48.2.1 148 2 = nI rs := fc_F hf114 hFc48 (by unfold M_M_openSize_3; omega)
                  have hf119 : q48.2.1 148 3 = nI ks := fc_F hf115 hFc48 (by unfold M_M_openSize_3; omega)
                  have hf120 : q48.2.1 148 0 = nI 0 := fc_F hf116 hFc48 (by unfold M_M_openSize_3; omega)
                  have hg85 : SETS ks (q48.2.1 170) := by rw [hFc48 170 (by unfold M_M_openSize_3; omega)]; exact hg83
                  have hg86 : HIDS ks (q48.2.1 171) := by rw [hFc48 171 (by unfold M_M_openSize_3; omega)]; exact hg84
                  obtain ⟨z43, ez43, hz64, hz65⟩ := cl_of (b := 2147483648) hx_90 (by omega) (by decide)
                  replace hR := bnd_step hR ez43
                  refine mi_as hz64 ?_
                  have hsz31 : z43 = 1312 := (nI_eq (by omega) (by omega)).mp (hz64.symm.trans hxp48)
                  subst hsz31
                  refine W.widen (k := 0) (n := 0) (by omega) (by omega) ?_
                  refine mi_ge (tgt := 168) hx hb dM_load_138 (by decide) (by omega) (by omega) (fun h45 => ?_) (fun h45 => absurd h45 (by omega))
                  refine lv_iconst (v := nI 0) hx hb dM_load_168 (by decide) ?_
                  refine lv_istore (lv' := [(4, .int (nI 0)), (3, .int (nI 0)), (0, .ref h0), (1, .int (nI 3)), (2, .int sc)]) hx hb dM_load_169 hl (by decide) rfl (fun ls hl => ?_)
                  refine lv_iload_n hx hb dM_load_171 rfl (lv_at hl 4 rfl) ?_
                  refine lv_if_eq (tgt := 209) hx hb dM_load_172 (by decide) (fun h9 => ?_) (fun h9 => absurd h22 h9)
                  refine lv_aload_n hx hb dM_load_209 rfl (lv_at hl 2 rfl) ?_
                  refine lv_iload_n hx hb dM_load_210 rfl (lv_at hl 3 rfl) ?_
                  refine lv_iload_n hx hb dM_load_211 rfl (lv_at hl 4 rfl) ?_
                  refine lv_if_eq (tgt := 222) hx hb dM_load_212 (by decide) (fun h9 => ?_) (fun h9 => absurd h22 h9)
                  refine lv_iconst (v := nI 0) hx hb dM_load_222 (by decide) ?_
                  refine mp_i (cx := []) (wr := []) hP hD hS hA [] [] rfl rfl rfl (by decide) (va_runV (As := [.int (nI 3), .int (nI 0)]) (rest := []) F (N_M_madeP l g _ T q48.2 pl hO hU h0 3 0 tp rs ks k_h0 hf117 hf118 hf119 (by omega) (by omega) (by omega) hg85 hg86) (cwV 2 hts (wg_app (wg_c kw_1756 (wg_c kw_1758 (wg_c ks_64 (wg_c kw_9 wg_n)))) kw_1759) rfl rfl rfl (by decide +kernel) ⟨by decide, by decide⟩) (pn_W "LatticeKeysModel" (en_ok g) (ci := 8) (kn := 148) (fl := [(0, 0), (0, 0), (0, 0), (0, 0), (3, 149), (3, 150), (3, 151), (3, 152), (3, 161), (3, 170), (3, 171), (3, 172), (3, 184), (3, 225)]) hK hO k_h0 rfl hP hD hS hA hE [] rfl rfl rfl) rfl rfl hl.1 rfl (lv_room (Nat.le_of_ble_eq_true rfl)) dM_load_223 ⟨by omega, by omega⟩) (fun r64 u49 H locs hu49 hP hD hS => ?_)
                  obtain ⟨q49, pl⟩ := u49
                  obtain ⟨⟨eq49, rfl, hFc49, ⟨x91, hx_91, hb_91⟩, ⟨x92, hx_92, hb_92⟩, ⟨x93, hx_93, hb_93⟩, hxp49, -⟩, hO⟩ := hu49
                  have hO : okn g T q49.2 pl := hO
                  have hP : va_P g.1 vcl ([] ++ pl) _ := hP
                  have hD : va_D _ ([] ++ pl) := hD
                  have hFc49 : frm (M_M_madeP) q48.2 q49.2 := hFc49
                  have hb_91 : x91 = 0 := hb_91
                  have hb_92 : x92 = rs := hb_92
                  have hb_93 : x93 = ks + 1 := hb_93
                  replace hR := bnd_step hR eq49
                  have hF := frm_tr hF hFc49 (fun k hk => by unfold M_M_madeP at hk; unfold M_M_load; omega)
                  refine W.widen (k := 0) (n := 0) (by omega) (by omega) ?_
                  exact mp_iret hx hb hr hlk hP hD hS ((q49.1, q49.2), pl) ⟨⟨hR.symm, rfl, hF, ⟨x91, hx_91, by omega⟩, ⟨x92, hx_92, by omega⟩, ⟨x93, hx_93, by omega⟩, (by obtain ⟨x9, h9, e9, a9, b9⟩ := hxp49; subst e9; exact ⟨_, h9, by omega, a9, b9⟩), trivial⟩, hO⟩ [] rfl rfl rfl (by omega) (by omega) dM_load_226
                | succ n24 ih24 =>
                  intro i24 s28 pl ls H locs hm24 hF hf121 hf122 hf123 hf124 hg83 hg84 hR hl hO hP hD hS
                  refine lv_iload hx hb dM_load_132 (lv_at hl 0 rfl) ?_
                  refine lv_iload_n hx hb dM_load_134 rfl (lv_at hl 3 rfl) ?_
                  refine mp_i (cx := []) (wr := []) hP hD hS hA [] [] rfl rfl rfl (by decide) (va_runS (As := [.int (nI 3)]) (rest := [.int (nI i24)]) F (N_M_openSize_3 l g _ T s28 pl hO hU ) (va_cwS 1 hts (wg_app (wg_c kw_1764 (wg_c kw_1765 (wg_c kw_9 wg_n))) kw_1766) rfl rfl rfl (by decide +kernel) ⟨by decide, by decide⟩) (pp_S (en_ok g) hP hD hS hA hE [] rfl rfl) rfl rfl hl.1 rfl (lv_room (Nat.le_of_ble_eq_true rfl)) dM_load_135 ⟨by omega, by omega⟩) (fun r65 u50 H locs hu50 hP hD hS => ?_)
                  obtain ⟨q50, pl⟩ := u50
                  obtain ⟨⟨eq50, rfl, hFc50, ⟨x95, hx_95, hb_95⟩, hxp50, -⟩, hO⟩ := hu50
                  have hO : okn g T q50.2 pl := hO
                  have hP : va_P g.1 vcl ([] ++ pl) _ := hP
                  have hD : va_D _ ([] ++ pl) := hD
                  have hFc50 : frm (M_M_openSize_3) s28 q50.2 := hFc50
                  have hb_95 : x95 < 1313 := hb_95
                  replace hR := bnd_step hR eq50
                  have hF := frm_tr hF hFc50 (fun k hk => by unfold M_M_openSize_3 at hk; unfold M_M_load; omega)
                  have hf125 : q50.2.1 148 1 = nI tp := fc_F hf121 hFc50 (by unfold M_M_openSize_3; omega)
                  have hf126 : q50.2.1 148 2 = nI rs := fc_F hf122 hFc50 (by unfold M_M_openSize_3; omega)
                  have hf127 : q50.2.1 148 3 = nI ks := fc_F hf123 hFc50 (by unfold M_M_openSize_3; omega)
                  have hf128 : q50.2.1 148 0 = nI 0 := fc_F hf124 hFc50 (by unfold M_M_openSize_3; omega)
                  have hg87 : SETS ks (q50.2.1 170) := by rw [hFc50 170 (by unfold M_M_openSize_3; omega)]; exact hg83
                  have hg88 : HIDS ks (q50.2.1 171) := by rw [hFc50 171 (by unfold M_M_openSize_3; omega)]; exact hg84
                  obtain ⟨z44, ez44, hz66, hz67⟩ := cl_of (b := 2147483648) hx_95 (by omega) (by decide)
                  replace hR := bnd_step hR ez44
                  refine mi_as hz66 ?_
                  have hsz32 : z44 = 1312 := (nI_eq (by omega) (by omega)).mp (hz66.symm.trans hxp50)
                  subst hsz32
                  refine W.widen (k := 0) (n := 0) (by omega) (by omega) ?_
                  refine mi_ge (tgt := 168) hx hb dM_load_138 (by decide) (by omega) (by omega) (fun h46 => absurd h46 (by omega)) (fun h46 => ?_)
                  refine lv_aload_n hx hb dM_load_141 rfl (lv_at hl 2 rfl) ?_
                  refine nw_get (C := "LatticeKeysModel") (TT := T_M) (N := 14) hx hb hts (wg_ft i_M) hown hK hO k_h0 (kn := 148) (ci := 8) (fl := [(0, 0), (0, 0), (0, 0), (0, 0), (3, 149), (3, 150), (3, 151), (3, 152), (3, 161), (3, 170), (3, 171), (3, 172), (3, 184), (3, 225)]) rfl hP rfl 7 (by decide) (hts _ (wg_t kw_1533)) (fun _ h9 => h9) (cd := (3, 152)) rfl dM_load_142 (fun v44 hv45 => ?_)
                  obtain ⟨r66, rfl, kr36⟩ := (show ∃ r : Nat, v44 = .ref r ∧ T r = some 152 from hv45)
                  refine lv_aload_n hx hb dM_load_145 rfl (lv_at hl 2 rfl) ?_
                  refine nw_get (C := "LatticeKeysModel") (TT := T_M) (N := 14) hx hb hts (wg_ft i_M) hown hK hO k_h0 (kn := 148) (ci := 8) (fl := [(0, 0), (0, 0), (0, 0), (0, 0), (3, 149), (3, 150), (3, 151), (3, 152), (3, 161), (3, 170), (3, 171), (3, 172), (3, 184), (3, 225)]) rfl hP rfl 3 (by decide) (hts _ (wg_t kw_1529)) (fun _ h9 => h9) (cd := (0, 0)) rfl dM_load_146 (fun v45 hv46 => ?_)
                  obtain rfl := (show v45 = .int (q50.2.1 148 3) from hv46)
                  obtain ⟨z45, ez45, hz68, hz69⟩ := cl_of (b := 2147483648) hf127 (by omega) (by decide)
                  replace hR := bnd_step hR ez45
                  refine mi_as hz68 ?_
                  refine nw_aald4 hx hb hK hO kr36 (k := 152) (b := 153) rfl hP (by omega) (by omega) dM_load_149 (fun r67 kr37 => ?_)
                  have hn24 : nsp (153 + z45) = (1, 2592, []) := rows_okb 153 8 2592 (by decide) _ (by omega)
                  refine lv_iload hx hb dM_load_150 (lv_at hl 0 rfl) ?_
                  refine lv_aload_n hx hb dM_load_152 rfl (lv_at hl 2 rfl) ?_
                  refine nw_get (C := "LatticeKeysModel") (TT := T_M) (N := 14) hx hb hts (wg_ft i_M) hown hK hO k_h0 (kn := 148) (ci := 8) (fl := [(0, 0), (0, 0), (0, 0), (0, 0), (3, 149), (3, 150), (3, 151), (3, 152), (3, 161), (3, 170), (3, 171), (3, 172), (3, 184), (3, 225)]) rfl hP rfl 4 (by decide) (hts _ (wg_t kw_1530)) (fun _ h9 => h9) (cd := (3, 149)) rfl dM_load_153 (fun v46 hv47 => ?_)
                  obtain ⟨r68, rfl, kr38⟩ := (show ∃ r : Nat, v46 = .ref r ∧ T r = some 149 from hv47)
                  refine lv_iload_n hx hb dM_load_156 rfl (lv_at hl 1 rfl) ?_
                  refine lv_iload hx hb dM_load_157 (lv_at hl 0 rfl) ?_
                  refine mi_iadd hx hb dM_load_159 ?_
                  refine nw_bald hx hb hK hO kr38 (k := 149) rfl hP (by omega) (by omega) dM_load_160 ?_
                  refine nw_bast hx hb hK hO hU kr37 (k := (153 + z45)) hn24 hP hD hS (by omega) (by omega) dM_load_161 (fun s29 pl H locs es25 hO hP hD hS => ?_)
                  replace hR := bnd_step hR es25
                  have hF := frm_sB hF es25 (by unfold M_M_load; omega)
                  have hf129 : s29.1 148 1 = nI tp := fc_B hf125 es25 (by omega)
                  have hf130 : s29.1 148 2 = nI rs := fc_B hf126 es25 (by omega)
                  have hf131 : s29.1 148 3 = nI ks := fc_B hf127 es25 (by omega)
                  have hf132 : s29.1 148 0 = nI 0 := fc_B hf128 es25 (by omega)
                  have hg89 : SETS ks (s29.1 170) := by rw [(ar_sB es25 (by omega))]; exact hg87
                  have hg90 : HIDS ks (s29.1 171) := by rw [(ar_sB es25 (by omega))]; exact hg88
                  refine mi_iinc (k := 0) (x := i24) (d := 1) (y := i24 + 1) (lv' := [(4, .int (nI (i24 + 1))), (3, .int (nI 0)), (0, .ref h0), (1, .int (nI 3)), (2, .int sc)]) hx hb dM_load_162 hl rfl (by decide) rfl (by decide) rfl (fun ls hl => ?_)
                  refine lv_goto (tgt := 132) hx hb dM_load_165 (by decide) ?_
                  exact ih24 (i24 + 1) s29 pl ls H locs (by omega) hF hf129 hf130 hf131 hf132 hg89 hg90 hR (lv_sub hl [0, 1, 2, 3, 4] rfl) hO hP hD hS
              exact lp24 1312 0 q47.2 pl ls _ _ (by omega) hF hf109 hf110 hf111 hf112 hg81 hg82 hR (lv_sub hl [0, 1, 2, 3, 4] rfl) hO hP hD hS
            · replace hR := hR.trans (if_pos h44)
              refine lv_aload_n hx hb dM_load_107 rfl (lv_at hl 0 rfl) ?_
              refine lv_iconst (v := nI 3) hx hb dM_load_108 (by decide) ?_
              refine mp_i (cx := []) (wr := []) hP hD hS hA [] [] rfl rfl rfl (by decide) (va_runV (As := [.int (nI 3)]) (rest := []) F (N_M_fail l g _ T q47.2 pl hO hU h0 (nI 3) tp rs ks k_h0 hf109 hf110 hf111) (cwV 1 hts (wg_app (wg_c kw_1577 (wg_c kw_1579 (wg_c ks_50 (wg_c kw_9 wg_n)))) kw_1580) rfl rfl rfl (by decide +kernel) ⟨by decide, by decide⟩) (pn_W "LatticeKeysModel" (en_ok g) (ci := 8) (kn := 148) (fl := [(0, 0), (0, 0), (0, 0), (0, 0), (3, 149), (3, 150), (3, 151), (3, 152), (3, 161), (3, 170), (3, 171), (3, 172), (3, 184), (3, 225)]) hK hO k_h0 rfl hP hD hS hA hE [] rfl rfl rfl) rfl rfl hl.1 rfl (lv_room (Nat.le_of_ble_eq_true rfl)) dM_load_109 ⟨by omega, by omega⟩) (fun r69 u51 H locs hu51 hP hD hS => ?_)
              obtain ⟨q51, pl⟩ := u51
              obtain ⟨⟨eq51, rfl, hFc51, ⟨x96, hx_96, hb_96⟩, ⟨x97, hx_97, hb_97⟩, ⟨x98, hx_98, hb_98⟩, -⟩, hO⟩ := hu51
              have hO : okn g T q51.2 pl := hO
              have hP : va_P g.1 vcl ([] ++ pl) _ := hP
              have hD : va_D _ ([] ++ pl) := hD
              have hFc51 : frm (M_M_fail) q47.2 q51.2 := hFc51
              have hb_96 : x96 = tp := hb_96
              have hb_97 : x97 = rs := hb_97
              have hb_98 : x98 = ks := hb_98
              replace hR := bnd_step hR eq51
              have hF := frm_tr hF hFc51 (fun k hk => by unfold M_M_fail at hk; unfold M_M_load; omega)
              have hg91 : SETS ks (q51.2.1 170) := by rw [hFc51 170 (by unfold M_M_fail; omega)]; exact hg81
              have hg92 : HIDS ks (q51.2.1 171) := by rw [hFc51 171 (by unfold M_M_fail; omega)]; exact hg82
              refine W.widen (k := 0) (n := 0) (by omega) (by omega) ?_
              exact mp_iret hx hb hr hlk hP hD hS ((q51.1, q51.2), pl) ⟨⟨hR.symm, rfl, hF, ⟨x96, hx_96, by omega⟩, ⟨x97, hx_97, by omega⟩, ⟨x98, hx_98, by omega⟩, ⟨ks, (hx_98).trans (congrArg nI (show x98 = ks by omega)), by omega, hg91, hg92⟩, trivial⟩, hO⟩ [] rfl rfl rfl (by omega) (by omega) dM_load_112
          · replace hR := hR.trans (if_neg h42)
            refine lv_aload_n hx hb dM_load_44 rfl (lv_at hl 0 rfl) ?_
            refine lv_iconst (v := nI 1) hx hb dM_load_45 (by decide) ?_
            refine mp_i (cx := []) (wr := []) hP hD hS hA [] [] rfl rfl rfl (by decide) (va_runV (As := [.int (nI 1)]) (rest := []) F (N_M_fail l g _ T q47.2 pl hO hU h0 (nI 1) tp rs ks k_h0 hf109 hf110 hf111) (cwV 1 hts (wg_app (wg_c kw_1577 (wg_c kw_1579 (wg_c ks_50 (wg_c kw_9 wg_n)))) kw_1580) rfl rfl rfl (by decide +kernel) ⟨by decide, by decide⟩) (pn_W "LatticeKeysModel" (en_ok g) (ci := 8) (kn := 148) (fl := [(0, 0), (0, 0), (0, 0), (0, 0), (3, 149), (3, 150), (3, 151), (3, 152), (3, 161), (3, 170), (3, 171), (3, 172), (3, 184), (3, 225)]) hK hO k_h0 rfl hP hD hS hA hE [] rfl rfl rfl) rfl rfl hl.1 rfl (lv_room (Nat.le_of_ble_eq_true rfl)) dM_load_46 ⟨by omega, by omega⟩) (fun r70 u52 H locs hu52 hP hD hS => ?_)
            obtain ⟨q52, pl⟩ := u52
            obtain ⟨⟨eq52, rfl, hFc52, ⟨x100, hx_100, hb_100⟩, ⟨x101, hx_101, hb_101⟩, ⟨x102, hx_102, hb_102⟩, -⟩, hO⟩ := hu52
            have hO : okn g T q52.2 pl := hO
            have hP : va_P g.1 vcl ([] ++ pl) _ := hP
            have hD : va_D _ ([] ++ pl) := hD
            have hFc52 : frm (M_M_fail) q47.2 q52.2 := hFc52
            have hb_100 : x100 = tp := hb_100
            have hb_101 : x101 = rs := hb_101
            have hb_102 : x102 = ks := hb_102
            replace hR := bnd_step hR eq52
            have hF := frm_tr hF hFc52 (fun k hk => by unfold M_M_fail at hk; unfold M_M_load; omega)
            have hg93 : SETS ks (q52.2.1 170) := by rw [hFc52 170 (by unfold M_M_fail; omega)]; exact hg81
            have hg94 : HIDS ks (q52.2.1 171) := by rw [hFc52 171 (by unfold M_M_fail; omega)]; exact hg82
            refine W.widen (k := 0) (n := 0) (by omega) (by omega) ?_
            exact mp_iret hx hb hr hlk hP hD hS ((q52.1, q52.2), pl) ⟨⟨hR.symm, rfl, hF, ⟨x100, hx_100, by omega⟩, ⟨x101, hx_101, by omega⟩, ⟨x102, hx_102, by omega⟩, ⟨ks, (hx_102).trans (congrArg nI (show x102 = ks by omega)), by omega, hg93, hg94⟩, trivial⟩, hO⟩ [] rfl rfl rfl (by omega) (by omega) dM_load_49
        replace hR := hR.trans (if_neg hs24)
        by_cases hs25 : z21 = 4
        · replace hR := hR.trans (if_pos hs25)
          subst hs25
          refine lv_aload_n hx hb dM_load_22 rfl (lv_at hl 0 rfl) ?_
          refine nw_get (C := "LatticeKeysModel") (TT := T_M) (N := 14) hx hb hts (wg_ft i_M) hown hK hO k_h0 (kn := 148) (ci := 8) (fl := [(0, 0), (0, 0), (0, 0), (0, 0), (3, 149), (3, 150), (3, 151), (3, 152), (3, 161), (3, 170), (3, 171), (3, 172), (3, 184), (3, 225)]) rfl hP rfl 1 (by decide) (hts _ (wg_t kw_1527)) (fun _ h9 => h9) (cd := (0, 0)) rfl dM_load_23 (fun v47 hv48 => ?_)
          obtain rfl := (show v47 = .int (s21.1 148 1) from hv48)
          obtain ⟨z46, ez46, hz70, hz71⟩ := cl_of (b := 2147483648) hf21 (by omega) (by decide)
          replace hR := bnd_step hR ez46
          refine mi_as hz70 ?_
          refine lv_iload_n hx hb dM_load_26 rfl (lv_at hl 2 rfl) ?_
          refine lv_if_eq (tgt := 37) hx hb dM_load_27 (by decide) (fun h9 => ?_) (fun h9 => absurd h22 h9)
          refine lv_iload_n hx hb dM_load_37 rfl (lv_at hl 1 rfl) ?_
          refine mp_i (cx := []) (wr := []) hP hD hS hA [] [] rfl rfl rfl (by decide) (va_runS (As := [.int (nI 4)]) (rest := [.int (nI z46)]) F (N_M_openSize_4 l g _ T s21 pl hO hU ) (va_cwS 1 hts (wg_app (wg_c kw_1764 (wg_c kw_1765 (wg_c kw_9 wg_n))) kw_1766) rfl rfl rfl (by decide +kernel) ⟨by decide, by decide⟩) (pp_S (en_ok g) hP hD hS hA hE [] rfl rfl) rfl rfl hl.1 rfl (lv_room (Nat.le_of_ble_eq_true rfl)) dM_load_38 ⟨by omega, by omega⟩) (fun r71 u53 H locs hu53 hP hD hS => ?_)
          obtain ⟨q53, pl⟩ := u53
          obtain ⟨⟨eq53, rfl, hFc53, ⟨x104, hx_104, hb_104⟩, hxp53, -⟩, hO⟩ := hu53
          have hO : okn g T q53.2 pl := hO
          have hP : va_P g.1 vcl ([] ++ pl) _ := hP
          have hD : va_D _ ([] ++ pl) := hD
          have hFc53 : frm (M_M_openSize_4) s21 q53.2 := hFc53
          have hb_104 : x104 < 1953 := hb_104
          replace hR := bnd_step hR eq53
          have hF := frm_tr hF hFc53 (fun k hk => by unfold M_M_openSize_4 at hk; unfold M_M_load; omega)
          have hf133 : q53.2.1 148 1 = nI tp := fc_F hf21 hFc53 (by unfold M_M_openSize_4; omega)
          have hf134 : q53.2.1 148 2 = nI rs := fc_F hf22 hFc53 (by unfold M_M_openSize_4; omega)
          have hf135 : q53.2.1 148 3 = nI ks := fc_F hf23 hFc53 (by unfold M_M_openSize_4; omega)
          have hf136 : q53.2.1 148 0 = nI 0 := fc_F hf24 hFc53 (by unfold M_M_openSize_4; omega)
          have hg95 : SETS ks (q53.2.1 170) := by rw [hFc53 170 (by unfold M_M_openSize_4; omega)]; exact hg21
          have hg96 : HIDS ks (q53.2.1 171) := by rw [hFc53 171 (by unfold M_M_openSize_4; omega)]; exact hg22
          obtain ⟨z47, ez47, hz72, hz73⟩ := cl_of (b := 2147483648) hx_104 (by omega) (by decide)
          replace hR := bnd_step hR ez47
          refine mi_as hz72 ?_
          have hsz33 : z47 = 1952 := (nI_eq (by omega) (by omega)).mp (hz72.symm.trans hxp53)
          subst hsz33
          refine W.widen (k := 0) (n := 0) (by omega) (by omega) ?_
          refine mi_eq (tgt := 50) hx hb dM_load_41 (by decide) (by omega) (by omega) (fun h47 => ?_) (fun h47 => ?_)
          · replace hR := hR.trans (if_pos h47)
            refine lv_iload_n hx hb dM_load_50 rfl (lv_at hl 1 rfl) ?_
            refine lv_iconst (v := nI 3) hx hb dM_load_51 (by decide) ?_
            refine mi_ge (tgt := 98) hx hb dM_load_52 (by decide) (by omega) (by omega) (fun h48 => ?_) (fun h48 => absurd h48 (by omega))
            refine lv_aload_n hx hb dM_load_98 rfl (lv_at hl 0 rfl) ?_
            refine nw_get (C := "LatticeKeysModel") (TT := T_M) (N := 14) hx hb hts (wg_ft i_M) hown hK hO k_h0 (kn := 148) (ci := 8) (fl := [(0, 0), (0, 0), (0, 0), (0, 0), (3, 149), (3, 150), (3, 151), (3, 152), (3, 161), (3, 170), (3, 171), (3, 172), (3, 184), (3, 225)]) rfl hP rfl 3 (by decide) (hts _ (wg_t kw_1529)) (fun _ h9 => h9) (cd := (0, 0)) rfl dM_load_99 (fun v48 hv49 => ?_)
            obtain rfl := (show v48 = .int (q53.2.1 148 3) from hv49)
            obtain ⟨z48, ez48, hz74, hz75⟩ := cl_of (b := 2147483648) hf135 (by omega) (by decide)
            replace hR := bnd_step hR ez48
            refine mi_as hz74 ?_
            refine lv_bipush (v := nI 8) hx hb dM_load_102 (by decide) ?_
            refine mi_ne (tgt := 113) hx hb dM_load_104 (by decide) (by omega) (by omega) (fun h49 => ?_) (fun h49 => ?_)
            · replace hR := hR.trans (if_neg h49)
              refine lv_iload_n hx hb dM_load_113 rfl (lv_at hl 2 rfl) ?_
              refine lv_if_eq (tgt := 127) hx hb dM_load_114 (by decide) (fun h9 => ?_) (fun h9 => absurd h22 h9)
              refine lv_iconst (v := nI 0) hx hb dM_load_127 (by decide) ?_
              refine lv_istore_n (lv' := [(3, .int (nI 0)), (0, .ref h0), (1, .int (nI 4)), (2, .int sc)]) hx hb dM_load_128 rfl hl (by decide) rfl (fun ls hl => ?_)
              refine lv_iconst (v := nI 0) hx hb dM_load_129 (by decide) ?_
              refine lv_istore (lv' := [(4, .int (nI 0)), (3, .int (nI 0)), (0, .ref h0), (1, .int (nI 4)), (2, .int sc)]) hx hb dM_load_130 hl (by decide) rfl (fun ls hl => ?_)
              have lp25 : ∀ (n25 : Nat) (i25 : Nat) (s30 : Sto) (pl : va_W) (ls : Array Slot) (H : Heap) (locs : List Loc), n25 + i25 = 1952 → frm (M_M_load) s s30 → s30.1 148 1 = nI tp → s30.1 148 2 = nI rs → s30.1 148 3 = nI ks → s30.1 148 0 = nI 0 → (SETS ks (s30.1 170)) → (HIDS ks (s30.1 171)) → F_M_load v sc s = F_M_load_L4 n25 i25 s30 → lv_has ls 5 [(4, .int (nI i25)), (3, .int (nI 0)), (0, .ref h0), (1, .int (nI 4)), (2, .int sc)] → okn g T s30 pl → va_P g.1 vcl ([] ++ pl) H → va_D A ([] ++ pl) → va_S A s0.heap H locs → W p l e ({ frames := 6, cells := 0, slots := 0, locals := 139 } : Room) s0 m args below meth c H locs 0 0 (MQ below (va_Qi (fun (r : Int32) (u : (Int32 × Sto) × va_W) => (u.1 = F_M_load v sc s ∧ r = u.1.1 ∧ frm (M_M_load) s u.1.2 ∧ (∃ x : Nat, u.1.2.1 148 1 = nI x ∧ x ≤ 16384) ∧ (∃ x : Nat, u.1.2.1 148 2 = nI x ∧ x ≤ 8192) ∧ (∃ x : Nat, u.1.2.1 148 3 = nI x ∧ x ≤ 8) ∧ (∃ x : Nat, u.1.2.1 148 3 = nI x ∧ x ≤ 8 ∧ SETS x (u.1.2.1 170) ∧ HIDS x (u.1.2.1 171)) ∧ True) ∧ okn g T u.1.2 u.2) (po g.1 vcl A (fun (u : (Int32 × Sto) × va_W) => [] ++ u.2)) A) args s0 0 0 A) (F0 m 132 ls []) := by
                intro n25
                induction n25 with
                | zero =>
                  intro i25 s30 pl ls H locs hm25 hF hf137 hf138 hf139 hf140 hg97 hg98 hR hl hO hP hD hS
                  refine lv_iload hx hb dM_load_132 (lv_at hl 0 rfl) ?_
                  refine lv_iload_n hx hb dM_load_134 rfl (lv_at hl 3 rfl) ?_
                  refine mp_i (cx := []) (wr := []) hP hD hS hA [] [] rfl rfl rfl (by decide) (va_runS (As := [.int (nI 4)]) (rest := [.int (nI i25)]) F (N_M_openSize_4 l g _ T s30 pl hO hU ) (va_cwS 1 hts (wg_app (wg_c kw_1764 (wg_c kw_1765 (wg_c kw_9 wg_n))) kw_1766) rfl rfl rfl (by decide +kernel) ⟨by decide, by decide⟩) (pp_S (en_ok g) hP hD hS hA hE [] rfl rfl) rfl rfl hl.1 rfl (lv_room (Nat.le_of_ble_eq_true rfl)) dM_load_135 ⟨by omega, by omega⟩) (fun r72 u54 H locs hu54 hP hD hS => ?_)
                  obtain ⟨q54, pl⟩ := u54
                  obtain ⟨⟨eq54, rfl, hFc54, ⟨x105, hx_105, hb_105⟩, hxp54, -⟩, hO⟩ := hu54
                  have hO : okn g T q54.2 pl := hO
                  have hP : va_P g.1 vcl ([] ++ pl) _ := hP
                  have hD : va_D _ ([] ++ pl) := hD
                  have hFc54 : frm (M_M_openSize_4) s30 q54.2 := hFc54
                  have hb_105 : x105 < 1953 := hb_105
                  replace hR := bnd_step hR eq54
                  have hF := frm_tr hF hFc54 (fun k hk => by unfold M_M_openSize_4 at hk; unfold M_M_load; omega)
                  have hf141 : q54.2.1 148 1 = nI tp := fc_F hf137 hFc54 (by unfold M_M_openSize_4; omega)
                  have hf142 : q54.2.1 148 2 = nI rs := fc_F hf138 hFc54 (by unfold M_M_openSize_4; omega)
                  have hf143 : q54.2.1 148 3 = nI ks := fc_F hf139 hFc54 (by unfold M_M_openSize_4; omega)
                  have hf144 : q54.2.1 148 0 = nI 0 := fc_F hf140 hFc54 (by unfold M_M_openSize_4; omega)
                  have hg99 : SETS ks (q54.2.1 170) := by rw [hFc54 170 (by unfold M_M_openSize_4; omega)]; exact hg97
                  have hg100 : HIDS ks (q54.2.1 171) := by rw [hFc54 171 (by unfold M_M_openSize_4; omega)]; exact hg98
                  obtain ⟨z49, ez49, hz76, hz77⟩ := cl_of (b := 2147483648) hx_105 (by omega) (by decide)
                  replace hR := bnd_step hR ez49
                  refine mi_as hz76 ?_
                  have hsz34 : z49 = 1952 := (nI_eq (by omega) (by omega)).mp (hz76.symm.trans hxp54)
                  subst hsz34
                  refine W.widen (k := 0) (n := 0) (by omega) (by omega) ?_
                  refine mi_ge (tgt := 168) hx hb dM_load_138 (by decide) (by omega) (by omega) (fun h50 => ?_) (fun h50 => absurd h50 (by omega))
                  refine lv_iconst (v := nI 0) hx hb dM_load_168 (by decide) ?_
                  refine lv_istore (lv' := [(4, .int (nI 0)), (3, .int (nI 0)), (0, .ref h0), (1, .int (nI 4)), (2, .int sc)]) hx hb dM_load_169 hl (by decide) rfl (fun ls hl => ?_)
                  refine lv_iload_n hx hb dM_load_171 rfl (lv_at hl 4 rfl) ?_
                  refine lv_if_eq (tgt := 209) hx hb dM_load_172 (by decide) (fun h9 => ?_) (fun h9 => absurd h22 h9)
                  refine lv_aload_n hx hb dM_load_209 rfl (lv_at hl 2 rfl) ?_
                  refine lv_iload_n hx hb dM_load_210 rfl (lv_at hl 3 rfl) ?_
                  refine lv_iload_n hx hb dM_load_211 rfl (lv_at hl 4 rfl) ?_
                  refine lv_if_eq (tgt := 222) hx hb dM_load_212 (by decide) (fun h9 => ?_) (fun h9 => absurd h22 h9)
                  refine lv_iconst (v := nI 0) hx hb dM_load_222 (by decide) ?_
                  refine mp_i (cx := []) (wr := []) hP hD hS hA [] [] rfl rfl rfl (by decide) (va_runV (As := [.int (nI 4), .int (nI 0)]) (rest := []) F (N_M_madeP l g _ T q54.2 pl hO hU h0 4 0 tp rs ks k_h0 hf141 hf142 hf143 (by omega) (by omega) (by omega) hg99 hg100) (cwV 2 hts (wg_app (wg_c kw_1756 (wg_c kw_1758 (wg_c ks_64 (wg_c kw_9 wg_n)))) kw_1759) rfl rfl rfl (by decide +kernel) ⟨by decide, by decide⟩) (pn_W "LatticeKeysModel" (en_ok g) (ci := 8) (kn := 148) (fl := [(0, 0), (0, 0), (0, 0), (0, 0), (3, 149), (3, 150), (3, 151), (3, 152), (3, 161), (3, 170), (3, 171), (3, 172), (3, 184), (3, 225)]) hK hO k_h0 rfl hP hD hS hA hE [] rfl rfl rfl) rfl rfl hl.1 rfl (lv_room (Nat.le_of_ble_eq_true rfl)) dM_load_223 ⟨by omega, by omega⟩) (fun r73 u55 H locs hu55 hP hD hS => ?_)
                  obtain ⟨q55, pl⟩ := u55
                  obtain ⟨⟨eq55, rfl, hFc55, ⟨x106, hx_106, hb_106⟩, ⟨x107, hx_107, hb_107⟩, ⟨x108, hx_108, hb_108⟩, hxp55, -⟩, hO⟩ := hu55
                  have hO : okn g T q55.2 pl := hO
                  have hP : va_P g.1 vcl ([] ++ pl) _ := hP
                  have hD : va_D _ ([] ++ pl) := hD
                  have hFc55 : frm (M_M_madeP) q54.2 q55.2 := hFc55
                  have hb_106 : x106 = 0 := hb_106
                  have hb_107 : x107 = rs := hb_107
                  have hb_108 : x108 = ks + 1 := hb_108
                  replace hR := bnd_step hR eq55
                  have hF := frm_tr hF hFc55 (fun k hk => by unfold M_M_madeP at hk; unfold M_M_load; omega)
                  refine W.widen (k := 0) (n := 0) (by omega) (by omega) ?_
                  exact mp_iret hx hb hr hlk hP hD hS ((q55.1, q55.2), pl) ⟨⟨hR.symm, rfl, hF, ⟨x106, hx_106, by omega⟩, ⟨x107, hx_107, by omega⟩, ⟨x108, hx_108, by omega⟩, (by obtain ⟨x9, h9, e9, a9, b9⟩ := hxp55; subst e9; exact ⟨_, h9, by omega, a9, b9⟩), trivial⟩, hO⟩ [] rfl rfl rfl (by omega) (by omega) dM_load_226
                | succ n25 ih25 =>
                  intro i25 s30 pl ls H locs hm25 hF hf145 hf146 hf147 hf148 hg97 hg98 hR hl hO hP hD hS
                  refine lv_iload hx hb dM_load_132 (lv_at hl 0 rfl) ?_
                  refine lv_iload_n hx hb dM_load_134 rfl (lv_at hl 3 rfl) ?_
                  refine mp_i (cx := []) (wr := []) hP hD hS hA [] [] rfl rfl rfl (by decide) (va_runS (As := [.int (nI 4)]) (rest := [.int (nI i25)]) F (N_M_openSize_4 l g _ T s30 pl hO hU ) (va_cwS 1 hts (wg_app (wg_c kw_1764 (wg_c kw_1765 (wg_c kw_9 wg_n))) kw_1766) rfl rfl rfl (by decide +kernel) ⟨by decide, by decide⟩) (pp_S (en_ok g) hP hD hS hA hE [] rfl rfl) rfl rfl hl.1 rfl (lv_room (Nat.le_of_ble_eq_true rfl)) dM_load_135 ⟨by omega, by omega⟩) (fun r74 u56 H locs hu56 hP hD hS => ?_)
                  obtain ⟨q56, pl⟩ := u56
                  obtain ⟨⟨eq56, rfl, hFc56, ⟨x110, hx_110, hb_110⟩, hxp56, -⟩, hO⟩ := hu56
                  have hO : okn g T q56.2 pl := hO
                  have hP : va_P g.1 vcl ([] ++ pl) _ := hP
                  have hD : va_D _ ([] ++ pl) := hD
                  have hFc56 : frm (M_M_openSize_4) s30 q56.2 := hFc56
                  have hb_110 : x110 < 1953 := hb_110
                  replace hR := bnd_step hR eq56
                  have hF := frm_tr hF hFc56 (fun k hk => by unfold M_M_openSize_4 at hk; unfold M_M_load; omega)
                  have hf149 : q56.2.1 148 1 = nI tp := fc_F hf145 hFc56 (by unfold M_M_openSize_4; omega)
                  have hf150 : q56.2.1 148 2 = nI rs := fc_F hf146 hFc56 (by unfold M_M_openSize_4; omega)
                  have hf151 : q56.2.1 148 3 = nI ks := fc_F hf147 hFc56 (by unfold M_M_openSize_4; omega)
                  have hf152 : q56.2.1 148 0 = nI 0 := fc_F hf148 hFc56 (by unfold M_M_openSize_4; omega)
                  have hg101 : SETS ks (q56.2.1 170) := by rw [hFc56 170 (by unfold M_M_openSize_4; omega)]; exact hg97
                  have hg102 : HIDS ks (q56.2.1 171) := by rw [hFc56 171 (by unfold M_M_openSize_4; omega)]; exact hg98
                  obtain ⟨z50, ez50, hz78, hz79⟩ := cl_of (b := 2147483648) hx_110 (by omega) (by decide)
                  replace hR := bnd_step hR ez50
                  refine mi_as hz78 ?_
                  have hsz35 : z50 = 1952 := (nI_eq (by omega) (by omega)).mp (hz78.symm.trans hxp56)
                  subst hsz35
                  refine W.widen (k := 0) (n := 0) (by omega) (by omega) ?_
                  refine mi_ge (tgt := 168) hx hb dM_load_138 (by decide) (by omega) (by omega) (fun h51 => absurd h51 (by omega)) (fun h51 => ?_)
                  refine lv_aload_n hx hb dM_load_141 rfl (lv_at hl 2 rfl) ?_
                  refine nw_get (C := "LatticeKeysModel") (TT := T_M) (N := 14) hx hb hts (wg_ft i_M) hown hK hO k_h0 (kn := 148) (ci := 8) (fl := [(0, 0), (0, 0), (0, 0), (0, 0), (3, 149), (3, 150), (3, 151), (3, 152), (3, 161), (3, 170), (3, 171), (3, 172), (3, 184), (3, 225)]) rfl hP rfl 7 (by decide) (hts _ (wg_t kw_1533)) (fun _ h9 => h9) (cd := (3, 152)) rfl dM_load_142 (fun v49 hv50 => ?_)
                  obtain ⟨r75, rfl, kr39⟩ := (show ∃ r : Nat, v49 = .ref r ∧ T r = some 152 from hv50)
                  refine lv_aload_n hx hb dM_load_145 rfl (lv_at hl 2 rfl) ?_
                  refine nw_get (C := "LatticeKeysModel") (TT := T_M) (N := 14) hx hb hts (wg_ft i_M) hown hK hO k_h0 (kn := 148) (ci := 8) (fl := [(0, 0), (0, 0), (0, 0), (0, 0), (3, 149), (3, 150), (3, 151), (3, 152), (3, 161), (3, 170), (3, 171), (3, 172), (3, 184), (3, 225)]) rfl hP rfl 3 (by decide) (hts _ (wg_t kw_1529)) (fun _ h9 => h9) (cd := (0, 0)) rfl dM_load_146 (fun v50 hv51 => ?_)
                  obtain rfl := (show v50 = .int (q56.2.1 148 3) from hv51)
                  obtain ⟨z51, ez51, hz80, hz81⟩ := cl_of (b := 2147483648) hf151 (by omega) (by decide)
                  replace hR := bnd_step hR ez51
                  refine mi_as hz80 ?_
                  refine nw_aald4 hx hb hK hO kr39 (k := 152) (b := 153) rfl hP (by omega) (by omega) dM_load_149 (fun r76 kr40 => ?_)
                  have hn25 : nsp (153 + z51) = (1, 2592, []) := rows_okb 153 8 2592 (by decide) _ (by omega)
                  refine lv_iload hx hb dM_load_150 (lv_at hl 0 rfl) ?_
                  refine lv_aload_n hx hb dM_load_152 rfl (lv_at hl 2 rfl) ?_
                  refine nw_get (C := "LatticeKeysModel") (TT := T_M) (N := 14) hx hb hts (wg_ft i_M) hown hK hO k_h0 (kn := 148) (ci := 8) (fl := [(0, 0), (0, 0), (0, 0), (0, 0), (3, 149), (3, 150), (3, 151), (3, 152), (3, 161), (3, 170), (3, 171), (3, 172), (3, 184), (3, 225)]) rfl hP rfl 4 (by decide) (hts _ (wg_t kw_1530)) (fun _ h9 => h9) (cd := (3, 149)) rfl dM_load_153 (fun v51 hv52 => ?_)
                  obtain ⟨r77, rfl, kr41⟩ := (show ∃ r : Nat, v51 = .ref r ∧ T r = some 149 from hv52)
                  refine lv_iload_n hx hb dM_load_156 rfl (lv_at hl 1 rfl) ?_
                  refine lv_iload hx hb dM_load_157 (lv_at hl 0 rfl) ?_
                  refine mi_iadd hx hb dM_load_159 ?_
                  refine nw_bald hx hb hK hO kr41 (k := 149) rfl hP (by omega) (by omega) dM_load_160 ?_
                  refine nw_bast hx hb hK hO hU kr40 (k := (153 + z51)) hn25 hP hD hS (by omega) (by omega) dM_load_161 (fun s31 pl H locs es26 hO hP hD hS => ?_)
                  replace hR := bnd_step hR es26
                  have hF := frm_sB hF es26 (by unfold M_M_load; omega)
                  have hf153 : s31.1 148 1 = nI tp := fc_B hf149 es26 (by omega)
                  have hf154 : s31.1 148 2 = nI rs := fc_B hf150 es26 (by omega)
                  have hf155 : s31.1 148 3 = nI ks := fc_B hf151 es26 (by omega)
                  have hf156 : s31.1 148 0 = nI 0 := fc_B hf152 es26 (by omega)
                  have hg103 : SETS ks (s31.1 170) := by rw [(ar_sB es26 (by omega))]; exact hg101
                  have hg104 : HIDS ks (s31.1 171) := by rw [(ar_sB es26 (by omega))]; exact hg102
                  refine mi_iinc (k := 0) (x := i25) (d := 1) (y := i25 + 1) (lv' := [(4, .int (nI (i25 + 1))), (3, .int (nI 0)), (0, .ref h0), (1, .int (nI 4)), (2, .int sc)]) hx hb dM_load_162 hl rfl (by decide) rfl (by decide) rfl (fun ls hl => ?_)
                  refine lv_goto (tgt := 132) hx hb dM_load_165 (by decide) ?_
                  exact ih25 (i25 + 1) s31 pl ls H locs (by omega) hF hf153 hf154 hf155 hf156 hg103 hg104 hR (lv_sub hl [0, 1, 2, 3, 4] rfl) hO hP hD hS
              exact lp25 1952 0 q53.2 pl ls _ _ (by omega) hF hf133 hf134 hf135 hf136 hg95 hg96 hR (lv_sub hl [0, 1, 2, 3, 4] rfl) hO hP hD hS
            · replace hR := hR.trans (if_pos h49)
              refine lv_aload_n hx hb dM_load_107 rfl (lv_at hl 0 rfl) ?_
              refine lv_iconst (v := nI 3) hx hb dM_load_108 (by decide) ?_
              refine mp_i (cx := []) (wr := []) hP hD hS hA [] [] rfl rfl rfl (by decide) (va_runV (As := [.int (nI 3)]) (rest := []) F (N_M_fail l g _ T q53.2 pl hO hU h0 (nI 3) tp rs ks k_h0 hf133 hf134 hf135) (cwV 1 hts (wg_app (wg_c kw_1577 (wg_c kw_1579 (wg_c ks_50 (wg_c kw_9 wg_n)))) kw_1580) rfl rfl rfl (by decide +kernel) ⟨by decide, by decide⟩) (pn_W "LatticeKeysModel" (en_ok g) (ci := 8) (kn := 148) (fl := [(0, 0), (0, 0), (0, 0), (0, 0), (3, 149), (3, 150), (3, 151), (3, 152), (3, 161), (3, 170), (3, 171), (3, 172), (3, 184), (3, 225)]) hK hO k_h0 rfl hP hD hS hA hE [] rfl rfl rfl) rfl rfl hl.1 rfl (lv_room (Nat.le_of_ble_eq_true rfl)) dM_load_109 ⟨by omega, by omega⟩) (fun r78 u57 H locs hu57 hP hD hS => ?_)
              obtain ⟨q57, pl⟩ := u57
              obtain ⟨⟨eq57, rfl, hFc57, ⟨x111, hx_111, hb_111⟩, ⟨x112, hx_112, hb_112⟩, ⟨x113, hx_113, hb_113⟩, -⟩, hO⟩ := hu57
              have hO : okn g T q57.2 pl := hO
              have hP : va_P g.1 vcl ([] ++ pl) _ := hP
              have hD : va_D _ ([] ++ pl) := hD
              have hFc57 : frm (M_M_fail) q53.2 q57.2 := hFc57
              have hb_111 : x111 = tp := hb_111
              have hb_112 : x112 = rs := hb_112
              have hb_113 : x113 = ks := hb_113
              replace hR := bnd_step hR eq57
              have hF := frm_tr hF hFc57 (fun k hk => by unfold M_M_fail at hk; unfold M_M_load; omega)
              have hg105 : SETS ks (q57.2.1 170) := by rw [hFc57 170 (by unfold M_M_fail; omega)]; exact hg95
              have hg106 : HIDS ks (q57.2.1 171) := by rw [hFc57 171 (by unfold M_M_fail; omega)]; exact hg96
              refine W.widen (k := 0) (n := 0) (by omega) (by omega) ?_
              exact mp_iret hx hb hr hlk hP hD hS ((q57.1, q57.2), pl) ⟨⟨hR.symm, rfl, hF, ⟨x111, hx_111, by omega⟩, ⟨x112, hx_112, by omega⟩, ⟨x113, hx_113, by omega⟩, ⟨ks, (hx_113).trans (congrArg nI (show x113 = ks by omega)), by omega, hg105, hg106⟩, trivial⟩, hO⟩ [] rfl rfl rfl (by omega) (by omega) dM_load_112
          · replace hR := hR.trans (if_neg h47)
            refine lv_aload_n hx hb dM_load_44 rfl (lv_at hl 0 rfl) ?_
            refine lv_iconst (v := nI 1) hx hb dM_load_45 (by decide) ?_
            refine mp_i (cx := []) (wr := []) hP hD hS hA [] [] rfl rfl rfl (by decide) (va_runV (As := [.int (nI 1)]) (rest := []) F (N_M_fail l g _ T q53.2 pl hO hU h0 (nI 1) tp rs ks k_h0 hf133 hf134 hf135) (cwV 1 hts (wg_app (wg_c kw_1577 (wg_c kw_1579 (wg_c ks_50 (wg_c kw_9 wg_n)))) kw_1580) rfl rfl rfl (by decide +kernel) ⟨by decide, by decide⟩) (pn_W "LatticeKeysModel" (en_ok g) (ci := 8) (kn := 148) (fl := [(0, 0), (0, 0), (0, 0), (0, 0), (3, 149), (3, 150), (3, 151), (3, 152), (3, 161), (3, 170), (3, 171), (3, 172), (3, 184), (3, 225)]) hK hO k_h0 rfl hP hD hS hA hE [] rfl rfl rfl) rfl rfl hl.1 rfl (lv_room (Nat.le_of_ble_eq_true rfl)) dM_load_46 ⟨by omega, by omega⟩) (fun r79 u58 H locs hu58 hP hD hS => ?_)
            obtain ⟨q58, pl⟩ := u58
            obtain ⟨⟨eq58, rfl, hFc58, ⟨x115, hx_115, hb_115⟩, ⟨x116, hx_116, hb_116⟩, ⟨x117, hx_117, hb_117⟩, -⟩, hO⟩ := hu58
            have hO : okn g T q58.2 pl := hO
            have hP : va_P g.1 vcl ([] ++ pl) _ := hP
            have hD : va_D _ ([] ++ pl) := hD
            have hFc58 : frm (M_M_fail) q53.2 q58.2 := hFc58
            have hb_115 : x115 = tp := hb_115
            have hb_116 : x116 = rs := hb_116
            have hb_117 : x117 = ks := hb_117
            replace hR := bnd_step hR eq58
            have hF := frm_tr hF hFc58 (fun k hk => by unfold M_M_fail at hk; unfold M_M_load; omega)
            have hg107 : SETS ks (q58.2.1 170) := by rw [hFc58 170 (by unfold M_M_fail; omega)]; exact hg95
            have hg108 : HIDS ks (q58.2.1 171) := by rw [hFc58 171 (by unfold M_M_fail; omega)]; exact hg96
            refine W.widen (k := 0) (n := 0) (by omega) (by omega) ?_
            exact mp_iret hx hb hr hlk hP hD hS ((q58.1, q58.2), pl) ⟨⟨hR.symm, rfl, hF, ⟨x115, hx_115, by omega⟩, ⟨x116, hx_116, by omega⟩, ⟨x117, hx_117, by omega⟩, ⟨ks, (hx_117).trans (congrArg nI (show x117 = ks by omega)), by omega, hg107, hg108⟩, trivial⟩, hO⟩ [] rfl rfl rfl (by omega) (by omega) dM_load_49
        replace hR := hR.trans (if_neg hs25)
        have hs26 : z21 = 5 := by omega
        subst hs26
        refine lv_aload_n hx hb dM_load_22 rfl (lv_at hl 0 rfl) ?_
        refine nw_get (C := "LatticeKeysModel") (TT := T_M) (N := 14) hx hb hts (wg_ft i_M) hown hK hO k_h0 (kn := 148) (ci := 8) (fl := [(0, 0), (0, 0), (0, 0), (0, 0), (3, 149), (3, 150), (3, 151), (3, 152), (3, 161), (3, 170), (3, 171), (3, 172), (3, 184), (3, 225)]) rfl hP rfl 1 (by decide) (hts _ (wg_t kw_1527)) (fun _ h9 => h9) (cd := (0, 0)) rfl dM_load_23 (fun v52 hv53 => ?_)
        obtain rfl := (show v52 = .int (s21.1 148 1) from hv53)
        obtain ⟨z52, ez52, hz82, hz83⟩ := cl_of (b := 2147483648) hf21 (by omega) (by decide)
        replace hR := bnd_step hR ez52
        refine mi_as hz82 ?_
        refine lv_iload_n hx hb dM_load_26 rfl (lv_at hl 2 rfl) ?_
        refine lv_if_eq (tgt := 37) hx hb dM_load_27 (by decide) (fun h9 => ?_) (fun h9 => absurd h22 h9)
        refine lv_iload_n hx hb dM_load_37 rfl (lv_at hl 1 rfl) ?_
        refine mp_i (cx := []) (wr := []) hP hD hS hA [] [] rfl rfl rfl (by decide) (va_runS (As := [.int (nI 5)]) (rest := [.int (nI z52)]) F (N_M_openSize_5 l g _ T s21 pl hO hU ) (va_cwS 1 hts (wg_app (wg_c kw_1764 (wg_c kw_1765 (wg_c kw_9 wg_n))) kw_1766) rfl rfl rfl (by decide +kernel) ⟨by decide, by decide⟩) (pp_S (en_ok g) hP hD hS hA hE [] rfl rfl) rfl rfl hl.1 rfl (lv_room (Nat.le_of_ble_eq_true rfl)) dM_load_38 ⟨by omega, by omega⟩) (fun r80 u59 H locs hu59 hP hD hS => ?_)
        obtain ⟨q59, pl⟩ := u59
        obtain ⟨⟨eq59, rfl, hFc59, ⟨x119, hx_119, hb_119⟩, hxp59, -⟩, hO⟩ := hu59
        have hO : okn g T q59.2 pl := hO
        have hP : va_P g.1 vcl ([] ++ pl) _ := hP
        have hD : va_D _ ([] ++ pl) := hD
        have hFc59 : frm (M_M_openSize_5) s21 q59.2 := hFc59
        have hb_119 : x119 < 2593 := hb_119
        replace hR := bnd_step hR eq59
        have hF := frm_tr hF hFc59 (fun k hk => by unfold M_M_openSize_5 at hk; unfold M_M_load; omega)
        have hf157 : q59.2.1 148 1 = nI tp := fc_F hf21 hFc59 (by unfold M_M_openSize_5; omega)
        have hf158 : q59.2.1 148 2 = nI rs := fc_F hf22 hFc59 (by unfold M_M_openSize_5; omega)
        have hf159 : q59.2.1 148 3 = nI ks := fc_F hf23 hFc59 (by unfold M_M_openSize_5; omega)
        have hf160 : q59.2.1 148 0 = nI 0 := fc_F hf24 hFc59 (by unfold M_M_openSize_5; omega)
        have hg109 : SETS ks (q59.2.1 170) := by rw [hFc59 170 (by unfold M_M_openSize_5; omega)]; exact hg21
        have hg110 : HIDS ks (q59.2.1 171) := by rw [hFc59 171 (by unfold M_M_openSize_5; omega)]; exact hg22
        obtain ⟨z53, ez53, hz84, hz85⟩ := cl_of (b := 2147483648) hx_119 (by omega) (by decide)
        replace hR := bnd_step hR ez53
        refine mi_as hz84 ?_
        have hsz36 : z53 = 2592 := (nI_eq (by omega) (by omega)).mp (hz84.symm.trans hxp59)
        subst hsz36
        refine W.widen (k := 0) (n := 0) (by omega) (by omega) ?_
        refine mi_eq (tgt := 50) hx hb dM_load_41 (by decide) (by omega) (by omega) (fun h52 => ?_) (fun h52 => ?_)
        · replace hR := hR.trans (if_pos h52)
          refine lv_iload_n hx hb dM_load_50 rfl (lv_at hl 1 rfl) ?_
          refine lv_iconst (v := nI 3) hx hb dM_load_51 (by decide) ?_
          refine mi_ge (tgt := 98) hx hb dM_load_52 (by decide) (by omega) (by omega) (fun h53 => ?_) (fun h53 => absurd h53 (by omega))
          refine lv_aload_n hx hb dM_load_98 rfl (lv_at hl 0 rfl) ?_
          refine nw_get (C := "LatticeKeysModel") (TT := T_M) (N := 14) hx hb hts (wg_ft i_M) hown hK hO k_h0 (kn := 148) (ci := 8) (fl := [(0, 0), (0, 0), (0, 0), (0, 0), (3, 149), (3, 150), (3, 151), (3, 152), (3, 161), (3, 170), (3, 171), (3, 172), (3, 184), (3, 225)]) rfl hP rfl 3 (by decide) (hts _ (wg_t kw_1529)) (fun _ h9 => h9) (cd := (0, 0)) rfl dM_load_99 (fun v53 hv54 => ?_)
          obtain rfl := (show v53 = .int (q59.2.1 148 3) from hv54)
          obtain ⟨z54, ez54, hz86, hz87⟩ := cl_of (b := 2147483648) hf159 (by omega) (by decide)
          replace hR := bnd_step hR ez54
          refine mi_as hz86 ?_
          refine lv_bipush (v := nI 8) hx hb dM_load_102 (by decide) ?_
          refine mi_ne (tgt := 113) hx hb dM_load_104 (by decide) (by omega) (by omega) (fun h54 => ?_) (fun h54 => ?_)
          · replace hR := hR.trans (if_neg h54)
            refine lv_iload_n hx hb dM_load_113 rfl (lv_at hl 2 rfl) ?_
            refine lv_if_eq (tgt := 127) hx hb dM_load_114 (by decide) (fun h9 => ?_) (fun h9 => absurd h22 h9)
            refine lv_iconst (v := nI 0) hx hb dM_load_127 (by decide) ?_
            refine lv_istore_n (lv' := [(3, .int (nI 0)), (0, .ref h0), (1, .int (nI 5)), (2, .int sc)]) hx hb dM_load_128 rfl hl (by decide) rfl (fun ls hl => ?_)
            refine lv_iconst (v := nI 0) hx hb dM_load_129 (by decide) ?_
            refine lv_istore (lv' := [(4, .int (nI 0)), (3, .int (nI 0)), (0, .ref h0), (1, .int (nI 5)), (2, .int sc)]) hx hb dM_load_130 hl (by decide) rfl (fun ls hl => ?_)
            have lp26 : ∀ (n26 : Nat) (i26 : Nat) (s32 : Sto) (pl : va_W) (ls : Array Slot) (H : Heap) (locs : List Loc), n26 + i26 = 2592 → frm (M_M_load) s s32 → s32.1 148 1 = nI tp → s32.1 148 2 = nI rs → s32.1 148 3 = nI ks → s32.1 148 0 = nI 0 → (SETS ks (s32.1 170)) → (HIDS ks (s32.1 171)) → F_M_load v sc s = F_M_load_L5 n26 i26 s32 → lv_has ls 5 [(4, .int (nI i26)), (3, .int (nI 0)), (0, .ref h0), (1, .int (nI 5)), (2, .int sc)] → okn g T s32 pl → va_P g.1 vcl ([] ++ pl) H → va_D A ([] ++ pl) → va_S A s0.heap H locs → W p l e ({ frames := 6, cells := 0, slots := 0, locals := 139 } : Room) s0 m args below meth c H locs 0 0 (MQ below (va_Qi (fun (r : Int32) (u : (Int32 × Sto) × va_W) => (u.1 = F_M_load v sc s ∧ r = u.1.1 ∧ frm (M_M_load) s u.1.2 ∧ (∃ x : Nat, u.1.2.1 148 1 = nI x ∧ x ≤ 16384) ∧ (∃ x : Nat, u.1.2.1 148 2 = nI x ∧ x ≤ 8192) ∧ (∃ x : Nat, u.1.2.1 148 3 = nI x ∧ x ≤ 8) ∧ (∃ x : Nat, u.1.2.1 148 3 = nI x ∧ x ≤ 8 ∧ SETS x (u.1.2.1 170) ∧ HIDS x (u.1.2.1 171)) ∧ True) ∧ okn g T u.1.2 u.2) (po g.1 vcl A (fun (u : (Int32 × Sto) × va_W) => [] ++ u.2)) A) args s0 0 0 A) (F0 m 132 ls []) := by
              intro n26
              induction n26 with
              | zero =>
                intro i26 s32 pl ls H locs hm26 hF hf161 hf162 hf163 hf164 hg111 hg112 hR hl hO hP hD hS
                refine lv_iload hx hb dM_load_132 (lv_at hl 0 rfl) ?_
                refine lv_iload_n hx hb dM_load_134 rfl (lv_at hl 3 rfl) ?_
                refine mp_i (cx := []) (wr := []) hP hD hS hA [] [] rfl rfl rfl (by decide) (va_runS (As := [.int (nI 5)]) (rest := [.int (nI i26)]) F (N_M_openSize_5 l g _ T s32 pl hO hU ) (va_cwS 1 hts (wg_app (wg_c kw_1764 (wg_c kw_1765 (wg_c kw_9 wg_n))) kw_1766) rfl rfl rfl (by decide +kernel) ⟨by decide, by decide⟩) (pp_S (en_ok g) hP hD hS hA hE [] rfl rfl) rfl rfl hl.1 rfl (lv_room (Nat.le_of_ble_eq_true rfl)) dM_load_135 ⟨by omega, by omega⟩) (fun r81 u60 H locs hu60 hP hD hS => ?_)
                obtain ⟨q60, pl⟩ := u60
                obtain ⟨⟨eq60, rfl, hFc60, ⟨x120, hx_120, hb_120⟩, hxp60, -⟩, hO⟩ := hu60
                have hO : okn g T q60.2 pl := hO
                have hP : va_P g.1 vcl ([] ++ pl) _ := hP
                have hD : va_D _ ([] ++ pl) := hD
                have hFc60 : frm (M_M_openSize_5) s32 q60.2 := hFc60
                have hb_120 : x120 < 2593 := hb_120
                replace hR := bnd_step hR eq60
                have hF := frm_tr hF hFc60 (fun k hk => by unfold M_M_openSize_5 at hk; unfold M_M_load; omega)
                have hf165 : q60.2.1 148 1 = nI tp := fc_F hf161 hFc60 (by unfold M_M_openSize_5; omega)
                have hf166 : q60.2.1 148 2 = nI rs := fc_F hf162 hFc60 (by unfold M_M_openSize_5; omega)
                have hf167 : q60.2.1 148 3 = nI ks := fc_F hf163 hFc60 (by unfold M_M_openSize_5; omega)
                have hf168 : q60.2.1 148 0 = nI 0 := fc_F hf164 hFc60 (by unfold M_M_openSize_5; omega)
                have hg113 : SETS ks (q60.2.1 170) := by rw [hFc60 170 (by unfold M_M_openSize_5; omega)]; exact hg111
                have hg114 : HIDS ks (q60.2.1 171) := by rw [hFc60 171 (by unfold M_M_openSize_5; omega)]; exact hg112
                obtain ⟨z55, ez55, hz88, hz89⟩ := cl_of (b := 2147483648) hx_120 (by omega) (by decide)
                replace hR := bnd_step hR ez55
                refine mi_as hz88 ?_
                have hsz37 : z55 = 2592 := (nI_eq (by omega) (by omega)).mp (hz88.symm.trans hxp60)
                subst hsz37
                refine W.widen (k := 0) (n := 0) (by omega) (by omega) ?_
                refine mi_ge (tgt := 168) hx hb dM_load_138 (by decide) (by omega) (by omega) (fun h55 => ?_) (fun h55 => absurd h55 (by omega))
                refine lv_iconst (v := nI 0) hx hb dM_load_168 (by decide) ?_
                refine lv_istore (lv' := [(4, .int (nI 0)), (3, .int (nI 0)), (0, .ref h0), (1, .int (nI 5)), (2, .int sc)]) hx hb dM_load_169 hl (by decide) rfl (fun ls hl => ?_)
                refine lv_iload_n hx hb dM_load_171 rfl (lv_at hl 4 rfl) ?_
                refine lv_if_eq (tgt := 209) hx hb dM_load_172 (by decide) (fun h9 => ?_) (fun h9 => absurd h22 h9)
                refine lv_aload_n hx hb dM_load_209 rfl (lv_at hl 2 rfl) ?_
                refine lv_iload_n hx hb dM_load_210 rfl (lv_at hl 3 rfl) ?_
                refine lv_iload_n hx hb dM_load_211 rfl (lv_at hl 4 rfl) ?_
                refine lv_if_eq (tgt := 222) hx hb dM_load_212 (by decide) (fun h9 => ?_) (fun h9 => absurd h22 h9)
                refine lv_iconst (v := nI 0) hx hb dM_load_222 (by decide) ?_
                refine mp_i (cx := []) (wr := []) hP hD hS hA [] [] rfl rfl rfl (by decide) (va_runV (As := [.int (nI 5), .int (nI 0)]) (rest := []) F (N_M_madeP l g _ T q60.2 pl hO hU h0 5 0 tp rs ks k_h0 hf165 hf166 hf167 (by omega) (by omega) (by omega) hg113 hg114) (cwV 2 hts (wg_app (wg_c kw_1756 (wg_c kw_1758 (wg_c ks_64 (wg_c kw_9 wg_n)))) kw_1759) rfl rfl rfl (by decide +kernel) ⟨by decide, by decide⟩) (pn_W "LatticeKeysModel" (en_ok g) (ci := 8) (kn := 148) (fl := [(0, 0), (0, 0), (0, 0), (0, 0), (3, 149), (3, 150), (3, 151), (3, 152), (3, 161), (3, 170), (3, 171), (3, 172), (3, 184), (3, 225)]) hK hO k_h0 rfl hP hD hS hA hE [] rfl rfl rfl) rfl rfl hl.1 rfl (lv_room (Nat.le_of_ble_eq_true rfl)) dM_load_223 ⟨by omega, by omega⟩) (fun r82 u61 H locs hu61 hP hD hS => ?_)
                obtain ⟨q61, pl⟩ := u61
                obtain ⟨⟨eq61, rfl, hFc61, ⟨x121, hx_121, hb_121⟩, ⟨x122, hx_122, hb_122⟩, ⟨x123, hx_123, hb_123⟩, hxp61, -⟩, hO⟩ := hu61
                have hO : okn g T q61.2 pl := hO
                have hP : va_P g.1 vcl ([] ++ pl) _ := hP
                have hD : va_D _ ([] ++ pl) := hD
                have hFc61 : frm (M_M_madeP) q60.2 q61.2 := hFc61
                have hb_121 : x121 = 0 := hb_121
                have hb_122 : x122 = rs := hb_122
                have hb_123 : x123 = ks + 1 := hb_123
                replace hR := bnd_step hR eq61
                have hF := frm_tr hF hFc61 (fun k hk => by unfold M_M_madeP at hk; unfold M_M_load; omega)
                refine W.widen (k := 0) (n := 0) (by omega) (by omega) ?_
                exact mp_iret hx hb hr hlk hP hD hS ((q61.1, q61.2), pl) ⟨⟨hR.symm, rfl, hF, ⟨x121, hx_121, by omega⟩, ⟨x122, hx_122, by omega⟩, ⟨x123, hx_123, by omega⟩, (by obtain ⟨x9, h9, e9, a9, b9⟩ := hxp61; subst e9; exact ⟨_, h9, by omega, a9, b9⟩), trivial⟩, hO⟩ [] rfl rfl rfl (by omega) (by omega) dM_load_226
              | succ n26 ih26 =>
                intro i26 s32 pl ls H locs hm26 hF hf169 hf170 hf171 hf172 hg111 hg112 hR hl hO hP hD hS
                refine lv_iload hx hb dM_load_132 (lv_at hl 0 rfl) ?_
                refine lv_iload_n hx hb dM_load_134 rfl (lv_at hl 3 rfl) ?_
                refine mp_i (cx := []) (wr := []) hP hD hS hA [] [] rfl rfl rfl (by decide) (va_runS (As := [.int (nI 5)]) (rest := [.int (nI i26)]) F (N_M_openSize_5 l g _ T s32 pl hO hU ) (va_cwS 1 hts (wg_app (wg_c kw_1764 (wg_c kw_1765 (wg_c kw_9 wg_n))) kw_1766) rfl rfl rfl (by decide +kernel) ⟨by decide, by decide⟩) (pp_S (en_ok g) hP hD hS hA hE [] rfl rfl) rfl rfl hl.1 rfl (lv_room (Nat.le_of_ble_eq_true rfl)) dM_load_135 ⟨by omega, by omega⟩) (fun r83 u62 H locs hu62 hP hD hS => ?_)
                obtain ⟨q62, pl⟩ := u62
                obtain ⟨⟨eq62, rfl, hFc62, ⟨x125, hx_125, hb_125⟩, hxp62, -⟩, hO⟩ := hu62
                have hO : okn g T q62.2 pl := hO
                have hP : va_P g.1 vcl ([] ++ pl) _ := hP
                have hD : va_D _ ([] ++ pl) := hD
                have hFc62 : frm (M_M_openSize_5) s32 q62.2 := hFc62
                have hb_125 : x125 < 2593 := hb_125
                replace hR := bnd_step hR eq62
                have hF := frm_tr hF hFc62 (fun k hk => by unfold M_M_openSize_5 at hk; unfold M_M_load; omega)
                have hf173 : q62.2.1 148 1 = nI tp := fc_F hf169 hFc62 (by unfold M_M_openSize_5; omega)
                have hf174 : q62.2.1 148 2 = nI rs := fc_F hf170 hFc62 (by unfold M_M_openSize_5; omega)
                have hf175 : q62.2.1 148 3 = nI ks := fc_F hf171 hFc62 (by unfold M_M_openSize_5; omega)
                have hf176 : q62.2.1 148 0 = nI 0 := fc_F hf172 hFc62 (by unfold M_M_openSize_5; omega)
                have hg115 : SETS ks (q62.2.1 170) := by rw [hFc62 170 (by unfold M_M_openSize_5; omega)]; exact hg111
                have hg116 : HIDS ks (q62.2.1 171) := by rw [hFc62 171 (by unfold M_M_openSize_5; omega)]; exact hg112
                obtain ⟨z56, ez56, hz90, hz91⟩ := cl_of (b := 2147483648) hx_125 (by omega) (by decide)
                replace hR := bnd_step hR ez56
                refine mi_as hz90 ?_
                have hsz38 : z56 = 2592 := (nI_eq (by omega) (by omega)).mp (hz90.symm.trans hxp62)
                subst hsz38
                refine W.widen (k := 0) (n := 0) (by omega) (by omega) ?_
                refine mi_ge (tgt := 168) hx hb dM_load_138 (by decide) (by omega) (by omega) (fun h56 => absurd h56 (by omega)) (fun h56 => ?_)
                refine lv_aload_n hx hb dM_load_141 rfl (lv_at hl 2 rfl) ?_
                refine nw_get (C := "LatticeKeysModel") (TT := T_M) (N := 14) hx hb hts (wg_ft i_M) hown hK hO k_h0 (kn := 148) (ci := 8) (fl := [(0, 0), (0, 0), (0, 0), (0, 0), (3, 149), (3, 150), (3, 151), (3, 152), (3, 161), (3, 170), (3, 171), (3, 172), (3, 184), (3, 225)]) rfl hP rfl 7 (by decide) (hts _ (wg_t kw_1533)) (fun _ h9 => h9) (cd := (3, 152)) rfl dM_load_142 (fun v54 hv55 => ?_)
                obtain ⟨r84, rfl, kr42⟩ := (show ∃ r : Nat, v54 = .ref r ∧ T r = some 152 from hv55)
                refine lv_aload_n hx hb dM_load_145 rfl (lv_at hl 2 rfl) ?_
                refine nw_get (C := "LatticeKeysModel") (TT := T_M) (N := 14) hx hb hts (wg_ft i_M) hown hK hO k_h0 (kn := 148) (ci := 8) (fl := [(0, 0), (0, 0), (0, 0), (0, 0), (3, 149), (3, 150), (3, 151), (3, 152), (3, 161), (3, 170), (3, 171), (3, 172), (3, 184), (3, 225)]) rfl hP rfl 3 (by decide) (hts _ (wg_t kw_1529)) (fun _ h9 => h9) (cd := (0, 0)) rfl dM_load_146 (fun v55 hv56 => ?_)
                obtain rfl := (show v55 = .int (q62.2.1 148 3) from hv56)
                obtain ⟨z57, ez57, hz92, hz93⟩ := cl_of (b := 2147483648) hf175 (by omega) (by decide)
                replace hR := bnd_step hR ez57
                refine mi_as hz92 ?_
                refine nw_aald4 hx hb hK hO kr42 (k := 152) (b := 153) rfl hP (by omega) (by omega) dM_load_149 (fun r85 kr43 => ?_)
                have hn26 : nsp (153 + z57) = (1, 2592, []) := rows_okb 153 8 2592 (by decide) _ (by omega)
                refine lv_iload hx hb dM_load_150 (lv_at hl 0 rfl) ?_
                refine lv_aload_n hx hb dM_load_152 rfl (lv_at hl 2 rfl) ?_
                refine nw_get (C := "LatticeKeysModel") (TT := T_M) (N := 14) hx hb hts (wg_ft i_M) hown hK hO k_h0 (kn := 148) (ci := 8) (fl := [(0, 0), (0, 0), (0, 0), (0, 0), (3, 149), (3, 150), (3, 151), (3, 152), (3, 161), (3, 170), (3, 171), (3, 172), (3, 184), (3, 225)]) rfl hP rfl 4 (by decide) (hts _ (wg_t kw_1530)) (fun _ h9 => h9) (cd := (3, 149)) rfl dM_load_153 (fun v56 hv57 => ?_)
                obtain ⟨r86, rfl, kr44⟩ := (show ∃ r : Nat, v56 = .ref r ∧ T r = some 149 from hv57)
                refine lv_iload_n hx hb dM_load_156 rfl (lv_at hl 1 rfl) ?_
                refine lv_iload hx hb dM_load_157 (lv_at hl 0 rfl) ?_
                refine mi_iadd hx hb dM_load_159 ?_
                refine nw_bald hx hb hK hO kr44 (k := 149) rfl hP (by omega) (by omega) dM_load_160 ?_
                refine nw_bast hx hb hK hO hU kr43 (k := (153 + z57)) hn26 hP hD hS (by omega) (by omega) dM_load_161 (fun s33 pl H locs es27 hO hP hD hS => ?_)
                replace hR := bnd_step hR es27
                have hF := frm_sB hF es27 (by unfold M_M_load; omega)
                have hf177 : s33.1 148 1 = nI tp := fc_B hf173 es27 (by omega)
                have hf178 : s33.1 148 2 = nI rs := fc_B hf174 es27 (by omega)
                have hf179 : s33.1 148 3 = nI ks := fc_B hf175 es27 (by omega)
                have hf180 : s33.1 148 0 = nI 0 := fc_B hf176 es27 (by omega)
                have hg117 : SETS ks (s33.1 170) := by rw [(ar_sB es27 (by omega))]; exact hg115
                have hg118 : HIDS ks (s33.1 171) := by rw [(ar_sB es27 (by omega))]; exact hg116
                refine mi_iinc (k := 0) (x := i26) (d := 1) (y := i26 + 1) (lv' := [(4, .int (nI (i26 + 1))), (3, .int (nI 0)), (0, .ref h0), (1, .int (nI 5)), (2, .int sc)]) hx hb dM_load_162 hl rfl (by decide) rfl (by decide) rfl (fun ls hl => ?_)
                refine lv_goto (tgt := 132) hx hb dM_load_165 (by decide) ?_
                exact ih26 (i26 + 1) s33 pl ls H locs (by omega) hF hf177 hf178 hf179 hf180 hg117 hg118 hR (lv_sub hl [0, 1, 2, 3, 4] rfl) hO hP hD hS
            exact lp26 2592 0 q59.2 pl ls _ _ (by omega) hF hf157 hf158 hf159 hf160 hg109 hg110 hR (lv_sub hl [0, 1, 2, 3, 4] rfl) hO hP hD hS
          · replace hR := hR.trans (if_pos h54)
            refine lv_aload_n hx hb dM_load_107 rfl (lv_at hl 0 rfl) ?_
            refine lv_iconst (v := nI 3) hx hb dM_load_108 (by decide) ?_
            refine mp_i (cx := []) (wr := []) hP hD hS hA [] [] rfl rfl rfl (by decide) (va_runV (As := [.int (nI 3)]) (rest := []) F (N_M_fail l g _ T q59.2 pl hO hU h0 (nI 3) tp rs ks k_h0 hf157 hf158 hf159) (cwV 1 hts (wg_app (wg_c kw_1577 (wg_c kw_1579 (wg_c ks_50 (wg_c kw_9 wg_n)))) kw_1580) rfl rfl rfl (by decide +kernel) ⟨by decide, by decide⟩) (pn_W "LatticeKeysModel" (en_ok g) (ci := 8) (kn := 148) (fl := [(0, 0), (0, 0), (0, 0), (0, 0), (3, 149), (3, 150), (3, 151), (3, 152), (3, 161), (3, 170), (3, 171), (3, 172), (3, 184), (3, 225)]) hK hO k_h0 rfl hP hD hS hA hE [] rfl rfl rfl) rfl rfl hl.1 rfl (lv_room (Nat.le_of_ble_eq_true rfl)) dM_load_109 ⟨by omega, by omega⟩) (fun r87 u63 H locs hu63 hP hD hS => ?_)
            obtain ⟨q63, pl⟩ := u63
            obtain ⟨⟨eq63, rfl, hFc63, ⟨x126, hx_126, hb_126⟩, ⟨x127, hx_127, hb_127⟩, ⟨x128, hx_128, hb_128⟩, -⟩, hO⟩ := hu63
            have hO : okn g T q63.2 pl := hO
            have hP : va_P g.1 vcl ([] ++ pl) _ := hP
            have hD : va_D _ ([] ++ pl) := hD
            have hFc63 : frm (M_M_fail) q59.2 q63.2 := hFc63
            have hb_126 : x126 = tp := hb_126
            have hb_127 : x127 = rs := hb_127
            have hb_128 : x128 = ks := hb_128
            replace hR := bnd_step hR eq63
            have hF := frm_tr hF hFc63 (fun k hk => by unfold M_M_fail at hk; unfold M_M_load; omega)
            have hg119 : SETS ks (q63.2.1 170) := by rw [hFc63 170 (by unfold M_M_fail; omega)]; exact hg109
            have hg120 : HIDS ks (q63.2.1 171) := by rw [hFc63 171 (by unfold M_M_fail; omega)]; exact hg110
            refine W.widen (k := 0) (n := 0) (by omega) (by omega) ?_
            exact mp_iret hx hb hr hlk hP hD hS ((q63.1, q63.2), pl) ⟨⟨hR.symm, rfl, hF, ⟨x126, hx_126, by omega⟩, ⟨x127, hx_127, by omega⟩, ⟨x128, hx_128, by omega⟩, ⟨ks, (hx_128).trans (congrArg nI (show x128 = ks by omega)), by omega, hg119, hg120⟩, trivial⟩, hO⟩ [] rfl rfl rfl (by omega) (by omega) dM_load_112
        · replace hR := hR.trans (if_neg h52)
          refine lv_aload_n hx hb dM_load_44 rfl (lv_at hl 0 rfl) ?_
          refine lv_iconst (v := nI 1) hx hb dM_load_45 (by decide) ?_
          refine mp_i (cx := []) (wr := []) hP hD hS hA [] [] rfl rfl rfl (by decide) (va_runV (As := [.int (nI 1)]) (rest := []) F (N_M_fail l g _ T q59.2 pl hO hU h0 (nI 1) tp rs ks k_h0 hf157 hf158 hf159) (cwV 1 hts (wg_app (wg_c kw_1577 (wg_c kw_1579 (wg_c ks_50 (wg_c kw_9 wg_n)))) kw_1580) rfl rfl rfl (by decide +kernel) ⟨by decide, by decide⟩) (pn_W "LatticeKeysModel" (en_ok g) (ci := 8) (kn := 148) (fl := [(0, 0), (0, 0), (0, 0), (0, 0), (3, 149), (3, 150), (3, 151), (3, 152), (3, 161), (3, 170), (3, 171), (3, 172), (3, 184), (3, 225)]) hK hO k_h0 rfl hP hD hS hA hE [] rfl rfl rfl) rfl rfl hl.1 rfl (lv_room (Nat.le_of_ble_eq_true rfl)) dM_load_46 ⟨by omega, by omega⟩) (fun r88 u64 H locs hu64 hP hD hS => ?_)
          obtain ⟨q64, pl⟩ := u64
          obtain ⟨⟨eq64, rfl, hFc64, ⟨x130, hx_130, hb_130⟩, ⟨x131, hx_131, hb_131⟩, ⟨x132, hx_132, hb_132⟩, -⟩, hO⟩ := hu64
          have hO : okn g T q64.2 pl := hO
          have hP : va_P g.1 vcl ([] ++ pl) _ := hP
          have hD : va_D _ ([] ++ pl) := hD
          have hFc64 : frm (M_M_fail) q59.2 q64.2 := hFc64
          have hb_130 : x130 = tp := hb_130
          have hb_131 : x131 = rs := hb_131
          have hb_132 : x132 = ks := hb_132
          replace hR := bnd_step hR eq64
          have hF := frm_tr hF hFc64 (fun k hk => by unfold M_M_fail at hk; unfold M_M_load; omega)
          have hg121 : SETS ks (q64.2.1 170) := by rw [hFc64 170 (by unfold M_M_fail; omega)]; exact hg109
          have hg122 : HIDS ks (q64.2.1 171) := by rw [hFc64 171 (by unfold M_M_fail; omega)]; exact hg110
          refine W.widen (k := 0) (n := 0) (by omega) (by omega) ?_
          exact mp_iret hx hb hr hlk hP hD hS ((q64.1, q64.2), pl) ⟨⟨hR.symm, rfl, hF, ⟨x130, hx_130, by omega⟩, ⟨x131, hx_131, by omega⟩, ⟨x132, hx_132, by omega⟩, ⟨ks, (hx_132).trans (congrArg nI (show x132 = ks by omega)), by omega, hg121, hg122⟩, trivial⟩, hO⟩ [] rfl rfl rfl (by omega) (by omega) dM_load_49
    · replace hR := hR.trans (if_neg h22)
      refine lv_iconst (v := nI 2) hx hb dM_load_14 (by decide) ?_
      refine lv_goto (tgt := 19) hx hb dM_load_15 (by decide) ?_
      refine lv_icmp_gt (tgt := 44) hx hb dM_load_19 (by decide) (fun h57 => ?_) (fun h57 => ?_)
      · replace hR := hR.trans (if_pos h57)
        refine lv_aload_n hx hb dM_load_44 rfl (lv_at hl 0 rfl) ?_
        refine lv_iconst (v := nI 1) hx hb dM_load_45 (by decide) ?_
        refine mp_i (cx := []) (wr := []) hP hD hS hA [] [] rfl rfl rfl (by decide) (va_runV (As := [.int (nI 1)]) (rest := []) F (N_M_fail l g _ T s21 pl hO hU h0 (nI 1) tp rs ks k_h0 hf21 hf22 hf23) (cwV 1 hts (wg_app (wg_c kw_1577 (wg_c kw_1579 (wg_c ks_50 (wg_c kw_9 wg_n)))) kw_1580) rfl rfl rfl (by decide +kernel) ⟨by decide, by decide⟩) (pn_W "LatticeKeysModel" (en_ok g) (ci := 8) (kn := 148) (fl := [(0, 0), (0, 0), (0, 0), (0, 0), (3, 149), (3, 150), (3, 151), (3, 152), (3, 161), (3, 170), (3, 171), (3, 172), (3, 184), (3, 225)]) hK hO k_h0 rfl hP hD hS hA hE [] rfl rfl rfl) rfl rfl hl.1 rfl (lv_room (Nat.le_of_ble_eq_true rfl)) dM_load_46 ⟨by omega, by omega⟩) (fun r89 u65 H locs hu65 hP hD hS => ?_)
        obtain ⟨q65, pl⟩ := u65
        obtain ⟨⟨eq65, rfl, hFc65, ⟨x134, hx_134, hb_134⟩, ⟨x135, hx_135, hb_135⟩, ⟨x136, hx_136, hb_136⟩, -⟩, hO⟩ := hu65
        have hO : okn g T q65.2 pl := hO
        have hP : va_P g.1 vcl ([] ++ pl) _ := hP
        have hD : va_D _ ([] ++ pl) := hD
        have hFc65 : frm (M_M_fail) s21 q65.2 := hFc65
        have hb_134 : x134 = tp := hb_134
        have hb_135 : x135 = rs := hb_135
        have hb_136 : x136 = ks := hb_136
        replace hR := bnd_step hR eq65
        have hF := frm_tr hF hFc65 (fun k hk => by unfold M_M_fail at hk; unfold M_M_load; omega)
        have hg123 : SETS ks (q65.2.1 170) := by rw [hFc65 170 (by unfold M_M_fail; omega)]; exact hg21
        have hg124 : HIDS ks (q65.2.1 171) := by rw [hFc65 171 (by unfold M_M_fail; omega)]; exact hg22
        refine W.widen (k := 0) (n := 0) (by omega) (by omega) ?_
        exact mp_iret hx hb hr hlk hP hD hS ((q65.1, q65.2), pl) ⟨⟨hR.symm, rfl, hF, ⟨x134, hx_134, by omega⟩, ⟨x135, hx_135, by omega⟩, ⟨x136, hx_136, by omega⟩, ⟨ks, (hx_136).trans (congrArg nI (show x136 = ks by omega)), by omega, hg123, hg124⟩, trivial⟩, hO⟩ [] rfl rfl rfl (by omega) (by omega) dM_load_49
      · replace hR := hR.trans (if_neg h57)
        obtain ⟨z58, hz94, hv58⟩ := i32_lex h21 (by omega) h57
        have ez58 : z58 = v.toNatClampNeg := by rw [hv58]; exact (nI_clamp (by omega)).symm
        replace hR := bnd_step hR ez58
        rw [hv58] at hl
        by_cases hs27 : z58 = 0
        · replace hR := hR.trans (if_pos hs27)
          subst hs27
          refine lv_aload_n hx hb dM_load_22 rfl (lv_at hl 0 rfl) ?_
          refine nw_get (C := "LatticeKeysModel") (TT := T_M) (N := 14) hx hb hts (wg_ft i_M) hown hK hO k_h0 (kn := 148) (ci := 8) (fl := [(0, 0), (0, 0), (0, 0), (0, 0), (3, 149), (3, 150), (3, 151), (3, 152), (3, 161), (3, 170), (3, 171), (3, 172), (3, 184), (3, 225)]) rfl hP rfl 1 (by decide) (hts _ (wg_t kw_1527)) (fun _ h9 => h9) (cd := (0, 0)) rfl dM_load_23 (fun v57 hv59 => ?_)
          obtain rfl := (show v57 = .int (s21.1 148 1) from hv59)
          obtain ⟨z59, ez59, hz95, hz96⟩ := cl_of (b := 2147483648) hf21 (by omega) (by decide)
          replace hR := bnd_step hR ez59
          refine mi_as hz95 ?_
          refine lv_iload_n hx hb dM_load_26 rfl (lv_at hl 2 rfl) ?_
          refine lv_if_eq (tgt := 37) hx hb dM_load_27 (by decide) (fun h9 => absurd h9 h22) (fun h9 => ?_)
          refine lv_iload_n hx hb dM_load_30 rfl (lv_at hl 1 rfl) ?_
          refine mp_i (cx := []) (wr := []) hP hD hS hA [] [] rfl rfl rfl (by decide) (va_runS (As := [.int (nI 0)]) (rest := [.int (nI z59)]) F (N_M_hiddenSize_0 l g _ T s21 pl hO hU ) (va_cwS 1 hts (wg_app (wg_c kw_1747 (wg_c kw_1748 (wg_c kw_9 wg_n))) kw_1749) rfl rfl rfl (by decide +kernel) ⟨by decide, by decide⟩) (pp_S (en_ok g) hP hD hS hA hE [] rfl rfl) rfl rfl hl.1 rfl (lv_room (Nat.le_of_ble_eq_true rfl)) dM_load_31 ⟨by omega, by omega⟩) (fun r90 u66 H locs hu66 hP hD hS => ?_)
          obtain ⟨q66, pl⟩ := u66
          obtain ⟨⟨eq66, rfl, hFc66, ⟨x138, hx_138, hb_138⟩, hxp66, -⟩, hO⟩ := hu66
          have hO : okn g T q66.2 pl := hO
          have hP : va_P g.1 vcl ([] ++ pl) _ := hP
          have hD : va_D _ ([] ++ pl) := hD
          have hFc66 : frm (M_M_hiddenSize_0) s21 q66.2 := hFc66
          have hb_138 : x138 < 1633 := hb_138
          replace hR := bnd_step hR eq66
          have hF := frm_tr hF hFc66 (fun k hk => by unfold M_M_hiddenSize_0 at hk; unfold M_M_load; omega)
          have hf181 : q66.2.1 148 1 = nI tp := fc_F hf21 hFc66 (by unfold M_M_hiddenSize_0; omega)
          have hf182 : q66.2.1 148 2 = nI rs := fc_F hf22 hFc66 (by unfold M_M_hiddenSize_0; omega)
          have hf183 : q66.2.1 148 3 = nI ks := fc_F hf23 hFc66 (by unfold M_M_hiddenSize_0; omega)
          have hf184 : q66.2.1 148 0 = nI 0 := fc_F hf24 hFc66 (by unfold M_M_hiddenSize_0; omega)
          have hg125 : SETS ks (q66.2.1 170) := by rw [hFc66 170 (by unfold M_M_hiddenSize_0; omega)]; exact hg21
          have hg126 : HIDS ks (q66.2.1 171) := by rw [hFc66 171 (by unfold M_M_hiddenSize_0; omega)]; exact hg22
          obtain ⟨z60, ez60, hz97, hz98⟩ := cl_of (b := 2147483648) hx_138 (by omega) (by decide)
          replace hR := bnd_step hR ez60
          refine mi_as hz97 ?_
          have hsz39 : z60 = 1632 := (nI_eq (by omega) (by omega)).mp (hz97.symm.trans hxp66)
          subst hsz39
          refine W.widen (k := 0) (n := 0) (by omega) (by omega) ?_
          refine lv_goto (tgt := 41) hx hb dM_load_34 (by decide) ?_
          refine mi_eq (tgt := 50) hx hb dM_load_41 (by decide) (by omega) (by omega) (fun h58 => ?_) (fun h58 => ?_)
          · replace hR := hR.trans (if_pos h58)
            refine lv_iload_n hx hb dM_load_50 rfl (lv_at hl 1 rfl) ?_
            refine lv_iconst (v := nI 3) hx hb dM_load_51 (by decide) ?_
            refine mi_ge (tgt := 98) hx hb dM_load_52 (by decide) (by omega) (by omega) (fun h59 => absurd h59 (by omega)) (fun h59 => ?_)
            refine lv_iload_n hx hb dM_load_55 rfl (lv_at hl 2 rfl) ?_
            refine lv_if_eq (tgt := 77) hx hb dM_load_56 (by decide) (fun h9 => absurd h9 h22) (fun h9 => ?_)
            refine lv_aload_n hx hb dM_load_59 rfl (lv_at hl 0 rfl) ?_
            refine nw_get (C := "LatticeKeysModel") (TT := T_M) (N := 14) hx hb hts (wg_ft i_M) hown hK hO k_h0 (kn := 148) (ci := 8) (fl := [(0, 0), (0, 0), (0, 0), (0, 0), (3, 149), (3, 150), (3, 151), (3, 152), (3, 161), (3, 170), (3, 171), (3, 172), (3, 184), (3, 225)]) rfl hP rfl 12 (by decide) (hts _ (wg_t kw_1538)) (fun _ h9 => h9) (cd := (3, 184)) rfl dM_load_60 (fun v58 hv60 => ?_)
            obtain ⟨r91, rfl, kr45⟩ := (show ∃ r : Nat, v58 = .ref r ∧ T r = some 184 from hv60)
            refine lv_iload_n hx hb dM_load_63 rfl (lv_at hl 1 rfl) ?_
            refine lv_aload_n hx hb dM_load_64 rfl (lv_at hl 0 rfl) ?_
            refine nw_get (C := "LatticeKeysModel") (TT := T_M) (N := 14) hx hb hts (wg_ft i_M) hown hK hO k_h0 (kn := 148) (ci := 8) (fl := [(0, 0), (0, 0), (0, 0), (0, 0), (3, 149), (3, 150), (3, 151), (3, 152), (3, 161), (3, 170), (3, 171), (3, 172), (3, 184), (3, 225)]) rfl hP rfl 4 (by decide) (hts _ (wg_t kw_1530)) (fun _ h9 => h9) (cd := (3, 149)) rfl dM_load_65 (fun v59 hv61 => ?_)
            obtain ⟨r92, rfl, kr46⟩ := (show ∃ r : Nat, v59 = .ref r ∧ T r = some 149 from hv61)
            refine mp_i (cx := []) (wr := []) hP hD hS hA [] [] rfl rfl rfl (by decide) (va_runV (As := [.int (nI 0), .ref r92]) (rest := []) F (N_ME_goodHidden_0 l g _ T q66.2 pl hO hU r91 r92 149 kr45 kr46 rfl) (cwV 2 hts (wg_app (wg_c kw_1769 (wg_c kw_1770 (wg_c kw_1771 (wg_c kw_11 wg_n)))) kw_1772) rfl rfl rfl (by decide +kernel) ⟨by decide, by decide⟩) (pn_W "LatticeKeysModel$Secrets" (en_ok g) (ci := 11) (kn := 184) (fl := [(3, 172), (3, 178), (3, 185), (3, 202), (3, 207), (3, 212), (3, 217), (3, 218), (3, 219), (3, 220), (3, 221), (3, 222), (3, 223), (3, 224)]) hK hO kr45 rfl hP hD hS hA hE [] rfl rfl rfl) rfl rfl hl.1 rfl (lv_room (Nat.le_of_ble_eq_true rfl)) dM_load_68 ⟨by omega, by omega⟩) (fun r93 u67 H locs hu67 hP hD hS => ?_)
            obtain ⟨q67, pl⟩ := u67
            obtain ⟨⟨eq67, rfl, hFc67, -⟩, hO⟩ := hu67
            have hO : okn g T q67.2 pl := hO
            have hP : va_P g.1 vcl ([] ++ pl) _ := hP
            have hD : va_D _ ([] ++ pl) := hD
            have hFc67 : frm (M_ME_goodHidden_0) q66.2 q67.2 := hFc67
            replace hR := bnd_step hR eq67
            have hF := frm_tr hF hFc67 (fun k hk => by unfold M_ME_goodHidden_0 at hk; unfold M_M_load; omega)
            have hf185 : q67.2.1 148 1 = nI tp := fc_F hf181 hFc67 (by unfold M_ME_goodHidden_0; omega)
            have hf186 : q67.2.1 148 2 = nI rs := fc_F hf182 hFc67 (by unfold M_ME_goodHidden_0; omega)
            have hf187 : q67.2.1 148 3 = nI ks := fc_F hf183 hFc67 (by unfold M_ME_goodHidden_0; omega)
            have hf188 : q67.2.1 148 0 = nI 0 := fc_F hf184 hFc67 (by unfold M_ME_goodHidden_0; omega)
            have hg127 : SETS ks (q67.2.1 170) := by rw [hFc67 170 (by unfold M_ME_goodHidden_0; omega)]; exact hg125
            have hg128 : HIDS ks (q67.2.1 171) := by rw [hFc67 171 (by unfold M_ME_goodHidden_0; omega)]; exact hg126
            refine W.widen (k := 0) (n := 0) (by omega) (by omega) ?_
            refine lv_if_eq (tgt := 92) hx hb dM_load_71 (by decide) (fun h60 => ?_) (fun h60 => ?_)
            · replace hR := hR.trans (if_pos h60)
              refine lv_aload_n hx hb dM_load_92 rfl (lv_at hl 0 rfl) ?_
              refine lv_iconst (v := nI 2) hx hb dM_load_93 (by decide) ?_
              refine mp_i (cx := []) (wr := []) hP hD hS hA [] [] rfl rfl rfl (by decide) (va_runV (As := [.int (nI 2)]) (rest := []) F (N_M_fail l g _ T q67.2 pl hO hU h0 (nI 2) tp rs ks k_h0 hf185 hf186 hf187) (cwV 1 hts (wg_app (wg_c kw_1577 (wg_c kw_1579 (wg_c ks_50 (wg_c kw_9 wg_n)))) kw_1580) rfl rfl rfl (by decide +kernel) ⟨by decide, by decide⟩) (pn_W "LatticeKeysModel" (en_ok g) (ci := 8) (kn := 148) (fl := [(0, 0), (0, 0), (0, 0), (0, 0), (3, 149), (3, 150), (3, 151), (3, 152), (3, 161), (3, 170), (3, 171), (3, 172), (3, 184), (3, 225)]) hK hO k_h0 rfl hP hD hS hA hE [] rfl rfl rfl) rfl rfl hl.1 rfl (lv_room (Nat.le_of_ble_eq_true rfl)) dM_load_94 ⟨by omega, by omega⟩) (fun r94 u68 H locs hu68 hP hD hS => ?_)
              obtain ⟨q68, pl⟩ := u68
              obtain ⟨⟨eq68, rfl, hFc68, ⟨x140, hx_140, hb_140⟩, ⟨x141, hx_141, hb_141⟩, ⟨x142, hx_142, hb_142⟩, -⟩, hO⟩ := hu68
              have hO : okn g T q68.2 pl := hO
              have hP : va_P g.1 vcl ([] ++ pl) _ := hP
              have hD : va_D _ ([] ++ pl) := hD
              have hFc68 : frm (M_M_fail) q67.2 q68.2 := hFc68
              have hb_140 : x140 = tp := hb_140
              have hb_141 : x141 = rs := hb_141
              have hb_142 : x142 = ks := hb_142
              replace hR := bnd_step hR eq68
              have hF := frm_tr hF hFc68 (fun k hk => by unfold M_M_fail at hk; unfold M_M_load; omega)
              have hg129 : SETS ks (q68.2.1 170) := by rw [hFc68 170 (by unfold M_M_fail; omega)]; exact hg127
              have hg130 : HIDS ks (q68.2.1 171) := by rw [hFc68 171 (by unfold M_M_fail; omega)]; exact hg128
              refine W.widen (k := 0) (n := 0) (by omega) (by omega) ?_
              exact mp_iret hx hb hr hlk hP hD hS ((q68.1, q68.2), pl) ⟨⟨hR.symm, rfl, hF, ⟨x140, hx_140, by omega⟩, ⟨x141, hx_141, by omega⟩, ⟨x142, hx_142, by omega⟩, ⟨ks, (hx_142).trans (congrArg nI (show x142 = ks by omega)), by omega, hg129, hg130⟩, trivial⟩, hO⟩ [] rfl rfl rfl (by omega) (by omega) dM_load_97
            · replace hR := hR.trans (if_neg h60)
              refine lv_goto (tgt := 98) hx hb dM_load_74 (by decide) ?_
              refine lv_aload_n hx hb dM_load_98 rfl (lv_at hl 0 rfl) ?_
              refine nw_get (C := "LatticeKeysModel") (TT := T_M) (N := 14) hx hb hts (wg_ft i_M) hown hK hO k_h0 (kn := 148) (ci := 8) (fl := [(0, 0), (0, 0), (0, 0), (0, 0), (3, 149), (3, 150), (3, 151), (3, 152), (3, 161), (3, 170), (3, 171), (3, 172), (3, 184), (3, 225)]) rfl hP rfl 3 (by decide) (hts _ (wg_t kw_1529)) (fun _ h9 => h9) (cd := (0, 0)) rfl dM_load_99 (fun v60 hv62 => ?_)
              obtain rfl := (show v60 = .int (q67.2.1 148 3) from hv62)
              obtain ⟨z61, ez61, hz99, hz100⟩ := cl_of (b := 2147483648) hf187 (by omega) (by decide)
              replace hR := bnd_step hR ez61
              refine mi_as hz99 ?_
              refine lv_bipush (v := nI 8) hx hb dM_load_102 (by decide) ?_
              refine mi_ne (tgt := 113) hx hb dM_load_104 (by decide) (by omega) (by omega) (fun h61 => ?_) (fun h61 => ?_)
              · replace hR := hR.trans (if_neg h61)
                refine lv_iload_n hx hb dM_load_113 rfl (lv_at hl 2 rfl) ?_
                refine lv_if_eq (tgt := 127) hx hb dM_load_114 (by decide) (fun h9 => absurd h9 h22) (fun h9 => ?_)
                refine lv_iload_n hx hb dM_load_117 rfl (lv_at hl 1 rfl) ?_
                refine mp_i (cx := []) (wr := []) hP hD hS hA [] [] rfl rfl rfl (by decide) (va_runS (As := [.int (nI 0)]) (rest := []) F (N_M_openSize_0 l g _ T q67.2 pl hO hU ) (va_cwS 1 hts (wg_app (wg_c kw_1764 (wg_c kw_1765 (wg_c kw_9 wg_n))) kw_1766) rfl rfl rfl (by decide +kernel) ⟨by decide, by decide⟩) (pp_S (en_ok g) hP hD hS hA hE [] rfl rfl) rfl rfl hl.1 rfl (lv_room (Nat.le_of_ble_eq_true rfl)) dM_load_118 ⟨by omega, by omega⟩) (fun r95 u69 H locs hu69 hP hD hS => ?_)
                obtain ⟨q69, pl⟩ := u69
                obtain ⟨⟨eq69, rfl, hFc69, ⟨x144, hx_144, hb_144⟩, hxp69, -⟩, hO⟩ := hu69
                have hO : okn g T q69.2 pl := hO
                have hP : va_P g.1 vcl ([] ++ pl) _ := hP
                have hD : va_D _ ([] ++ pl) := hD
                have hFc69 : frm (M_M_openSize_0) q67.2 q69.2 := hFc69
                have hb_144 : x144 < 801 := hb_144
                replace hR := bnd_step hR eq69
                have hF := frm_tr hF hFc69 (fun k hk => by unfold M_M_openSize_0 at hk; unfold M_M_load; omega)
                have hf189 : q69.2.1 148 1 = nI tp := fc_F hf185 hFc69 (by unfold M_M_openSize_0; omega)
                have hf190 : q69.2.1 148 2 = nI rs := fc_F hf186 hFc69 (by unfold M_M_openSize_0; omega)
                have hf191 : q69.2.1 148 3 = nI ks := fc_F hf187 hFc69 (by unfold M_M_openSize_0; omega)
                have hf192 : q69.2.1 148 0 = nI 0 := fc_F hf188 hFc69 (by unfold M_M_openSize_0; omega)
                have hg131 : SETS ks (q69.2.1 170) := by rw [hFc69 170 (by unfold M_M_openSize_0; omega)]; exact hg127
                have hg132 : HIDS ks (q69.2.1 171) := by rw [hFc69 171 (by unfold M_M_openSize_0; omega)]; exact hg128
                obtain ⟨z62, ez62, hz101, hz102⟩ := cl_of (b := 2147483648) hx_144 (by omega) (by decide)
                replace hR := bnd_step hR ez62
                refine mi_as hz101 ?_
                have hsz40 : z62 = 800 := (nI_eq (by omega) (by omega)).mp (hz101.symm.trans hxp69)
                subst hsz40
                refine W.widen (k := 0) (n := 0) (by omega) (by omega) ?_
                refine lv_bipush (v := nI 32) hx hb dM_load_121 (by decide) ?_
                refine mi_isub hx hb dM_load_123 (by omega) ?_
                refine mi_as (show nI (800 - 32) = nI 768 from rfl) ?_
                refine lv_goto (tgt := 128) hx hb dM_load_124 (by decide) ?_
                refine lv_istore_n (lv' := [(3, .int (nI 768)), (0, .ref h0), (1, .int (nI 0)), (2, .int sc)]) hx hb dM_load_128 rfl hl (by decide) rfl (fun ls hl => ?_)
                refine lv_iconst (v := nI 0) hx hb dM_load_129 (by decide) ?_
                refine lv_istore (lv' := [(4, .int (nI 0)), (3, .int (nI 768)), (0, .ref h0), (1, .int (nI 0)), (2, .int sc)]) hx hb dM_load_130 hl (by decide) rfl (fun ls hl => ?_)
                have lp27 : ∀ (n27 : Nat) (i27 : Nat) (s34 : Sto) (pl : va_W) (ls : Array Slot) (H : Heap) (locs : List Loc), n27 + i27 = 800 → frm (M_M_load) s s34 → s34.1 148 1 = nI tp → s34.1 148 2 = nI rs → s34.1 148 3 = nI ks → s34.1 148 0 = nI 0 → (SETS ks (s34.1 170)) → (HIDS ks (s34.1 171)) → F_M_load v sc s = F_M_load_L6 n27 i27 s34 → lv_has ls 5 [(4, .int (nI i27)), (3, .int (nI 768)), (0, .ref h0), (1, .int (nI 0)), (2, .int sc)] → okn g T s34 pl → va_P g.1 vcl ([] ++ pl) H → va_D A ([] ++ pl) → va_S A s0.heap H locs → W p l e ({ frames := 6, cells := 0, slots := 0, locals := 139 } : Room) s0 m args below meth c H locs 0 0 (MQ below (va_Qi (fun (r : Int32) (u : (Int32 × Sto) × va_W) => (u.1 = F_M_load v sc s ∧ r = u.1.1 ∧ frm (M_M_load) s u.1.2 ∧ (∃ x : Nat, u.1.2.1 148 1 = nI x ∧ x ≤ 16384) ∧ (∃ x : Nat, u.1.2.1 148 2 = nI x ∧ x ≤ 8192) ∧ (∃ x : Nat, u.1.2.1 148 3 = nI x ∧ x ≤ 8) ∧ (∃ x : Nat, u.1.2.1 148 3 = nI x ∧ x ≤ 8 ∧ SETS x (u.1.2.1 170) ∧ HIDS x (u.1.2.1 171)) ∧ True) ∧ okn g T u.1.2 u.2) (po g.1 vcl A (fun (u : (Int32 × Sto) × va_W) => [] ++ u.2)) A) args s0 0 0 A) (F0 m 132 ls []) := by
                  intro n27
                  induction n27 with
                  | zero =>
                    intro i27 s34 pl ls H locs hm27 hF hf193 hf194 hf195 hf196 hg133 hg134 hR hl hO hP hD hS
                    refine lv_iload hx hb dM_load_132 (lv_at hl 0 rfl) ?_
                    refine lv_iload_n hx hb dM_load_134 rfl (lv_at hl 3 rfl) ?_
                    refine mp_i (cx := []) (wr := []) hP hD hS hA [] [] rfl rfl rfl (by decide) (va_runS (As := [.int (nI 0)]) (rest := [.int (nI i27)]) F (N_M_openSize_0 l g _ T s34 pl hO hU ) (va_cwS 1 hts (wg_app (wg_c kw_1764 (wg_c kw_1765 (wg_c kw_9 wg_n))) kw_1766) rfl rfl rfl (by decide +kernel) ⟨by decide, by decide⟩) (pp_S (en_ok g) hP hD hS hA hE [] rfl rfl) rfl rfl hl.1 rfl (lv_room (Nat.le_of_ble_eq_true rfl)) dM_load_135 ⟨by omega, by omega⟩) (fun r96 u70 H locs hu70 hP hD hS => ?_)
                    obtain ⟨q70, pl⟩ := u70
                    obtain ⟨⟨eq70, rfl, hFc70, ⟨x145, hx_145, hb_145⟩, hxp70, -⟩, hO⟩ := hu70
                    have hO : okn g T q70.2 pl := hO
                    have hP : va_P g.1 vcl ([] ++ pl) _ := hP
                    have hD : va_D _ ([] ++ pl) := hD
                    have hFc70 : frm (M_M_openSize_0) s34 q70.2 := hFc70
                    have hb_145 : x145 < 801 := hb_145
                    replace hR := bnd_step hR eq70
                    have hF := frm_tr hF hFc70 (fun k hk => by unfold M_M_openSize_0 at hk; unfold M_M_load; omega)
                    have hf197 : q70.2.1 148 1 = nI tp := fc_F hf193 hFc70 (by unfold M_M_openSize_0; omega)
                    have hf198 : q70.2.1 148 2 = nI rs := fc_F hf194 hFc70 (by unfold M_M_openSize_0; omega)
                    have hf199 : q70.2.1 148 3 = nI ks := fc_F hf195 hFc70 (by unfold M_M_openSize_0; omega)
                    have hf200 : q70.2.1 148 0 = nI 0 := fc_F hf196 hFc70 (by unfold M_M_openSize_0; omega)
                    have hg135 : SETS ks (q70.2.1 170) := by rw [hFc70 170 (by unfold M_M_openSize_0; omega)]; exact hg133
                    have hg136 : HIDS ks (q70.2.1 171) := by rw [hFc70 171 (by unfold M_M_openSize_0; omega)]; exact hg134
                    obtain ⟨z63, ez63, hz103, hz104⟩ := cl_of (b := 2147483648) hx_145 (by omega) (by decide)
                    replace hR := bnd_step hR ez63
                    refine mi_as hz103 ?_
                    have hsz41 : z63 = 800 := (nI_eq (by omega) (by omega)).mp (hz103.symm.trans hxp70)
                    subst hsz41
                    refine W.widen (k := 0) (n := 0) (by omega) (by omega) ?_
                    refine mi_ge (tgt := 168) hx hb dM_load_138 (by decide) (by omega) (by omega) (fun h62 => ?_) (fun h62 => absurd h62 (by omega))
                    refine lv_iconst (v := nI 0) hx hb dM_load_168 (by decide) ?_
                    refine lv_istore (lv' := [(4, .int (nI 0)), (3, .int (nI 768)), (0, .ref h0), (1, .int (nI 0)), (2, .int sc)]) hx hb dM_load_169 hl (by decide) rfl (fun ls hl => ?_)
                    have lp28 : ∀ (n28 : Nat) (i28 : Nat) (s35 : Sto) (pl : va_W) (ls : Array Slot) (H : Heap) (locs : List Loc), n28 + i28 = 1632 → frm (M_M_load) s s35 → s35.1 148 1 = nI tp → s35.1 148 2 = nI rs → s35.1 148 3 = nI ks → s35.1 148 0 = nI 0 → (SETS ks (s35.1 170)) → (HIDS ks (s35.1 171)) → F_M_load v sc s = F_M_load_L7 n28 i28 s35 → lv_has ls 5 [(4, .int (nI i28)), (0, .ref h0), (1, .int (nI 0)), (2, .int sc)] → okn g T s35 pl → va_P g.1 vcl ([] ++ pl) H → va_D A ([] ++ pl) → va_S A s0.heap H locs → W p l e ({ frames := 6, cells := 0, slots := 0, locals := 139 } : Room) s0 m args below meth c H locs 0 0 (MQ below (va_Qi (fun (r : Int32) (u : (Int32 × Sto) × va_W) => (u.1 = F_M_load v sc s ∧ r = u.1.1 ∧ frm (M_M_load) s u.1.2 ∧ (∃ x : Nat, u.1.2.1 148 1 = nI x ∧ x ≤ 16384) ∧ (∃ x : Nat, u.1.2.1 148 2 = nI x ∧ x ≤ 8192) ∧ (∃ x : Nat, u.1.2.1 148 3 = nI x ∧ x ≤ 8) ∧ (∃ x : Nat, u.1.2.1 148 3 = nI x ∧ x ≤ 8 ∧ SETS x (u.1.2.1 170) ∧ HIDS x (u.1.2.1 171)) ∧ True) ∧ okn g T u.1.2 u.2) (po g.1 vcl A (fun (u : (Int32 × Sto) × va_W) => [] ++ u.2)) A) args s0 0 0 A) (F0 m 171 ls []) := by
                      intro n28
                      induction n28 with
                      | zero =>
                        intro i28 s35 pl ls H locs hm28 hF hf201 hf202 hf203 hf204 hg137 hg138 hR hl hO hP hD hS
                        refine lv_iload_n hx hb dM_load_171 rfl (lv_at hl 3 rfl) ?_
                        refine lv_if_eq (tgt := 209) hx hb dM_load_172 (by decide) (fun h9 => absurd h9 h22) (fun h9 => ?_)
                        refine lv_iload hx hb dM_load_175 (lv_at hl 0 rfl) ?_
                        refine lv_aload_n hx hb dM_load_177 rfl (lv_at hl 1 rfl) ?_
                        refine nw_get (C := "LatticeKeysModel") (TT := T_M) (N := 14) hx hb hts (wg_ft i_M) hown hK hO k_h0 (kn := 148) (ci := 8) (fl := [(0, 0), (0, 0), (0, 0), (0, 0), (3, 149), (3, 150), (3, 151), (3, 152), (3, 161), (3, 170), (3, 171), (3, 172), (3, 184), (3, 225)]) rfl hP rfl 1 (by decide) (hts _ (wg_t kw_1527)) (fun _ h9 => h9) (cd := (0, 0)) rfl dM_load_178 (fun v61 hv63 => ?_)
                        obtain rfl := (show v61 = .int (s35.1 148 1) from hv63)
                        obtain ⟨z64, ez64, hz105, hz106⟩ := cl_of (b := 2147483648) hf201 (by omega) (by decide)
                        replace hR := bnd_step hR ez64
                        refine mi_as hz105 ?_
                        refine mi_ge (tgt := 209) hx hb dM_load_181 (by decide) (by omega) (by omega) (fun h63 => ?_) (fun h63 => absurd h63 (by omega))
                        refine lv_aload_n hx hb dM_load_209 rfl (lv_at hl 1 rfl) ?_
                        refine lv_iload_n hx hb dM_load_210 rfl (lv_at hl 2 rfl) ?_
                        refine lv_iload_n hx hb dM_load_211 rfl (lv_at hl 3 rfl) ?_
                        refine lv_if_eq (tgt := 222) hx hb dM_load_212 (by decide) (fun h9 => absurd h9 h22) (fun h9 => ?_)
                        refine lv_aload_n hx hb dM_load_215 rfl (lv_at hl 1 rfl) ?_
                        refine nw_get (C := "LatticeKeysModel") (TT := T_M) (N := 14) hx hb hts (wg_ft i_M) hown hK hO k_h0 (kn := 148) (ci := 8) (fl := [(0, 0), (0, 0), (0, 0), (0, 0), (3, 149), (3, 150), (3, 151), (3, 152), (3, 161), (3, 170), (3, 171), (3, 172), (3, 184), (3, 225)]) rfl hP rfl 1 (by decide) (hts _ (wg_t kw_1527)) (fun _ h9 => h9) (cd := (0, 0)) rfl dM_load_216 (fun v62 hv64 => ?_)
                        obtain rfl := (show v62 = .int (s35.1 148 1) from hv64)
                        obtain ⟨z65, ez65, hz107, hz108⟩ := cl_of (b := 2147483648) hf201 (by omega) (by decide)
                        replace hR := bnd_step hR ez65
                        refine mi_as hz107 ?_
                        refine lv_goto (tgt := 223) hx hb dM_load_219 (by decide) ?_
                        refine mp_i (cx := []) (wr := []) hP hD hS hA [] [] rfl rfl rfl (by decide) (va_runV (As := [.int (nI 0), .int (nI z65)]) (rest := []) F (N_M_madeP l g _ T s35 pl hO hU h0 0 z65 tp rs ks k_h0 hf201 hf202 hf203 (by omega) (by omega) (by omega) hg137 hg138) (cwV 2 hts (wg_app (wg_c kw_1756 (wg_c kw_1758 (wg_c ks_64 (wg_c kw_9 wg_n)))) kw_1759) rfl rfl rfl (by decide +kernel) ⟨by decide, by decide⟩) (pn_W "LatticeKeysModel" (en_ok g) (ci := 8) (kn := 148) (fl := [(0, 0), (0, 0), (0, 0), (0, 0), (3, 149), (3, 150), (3, 151), (3, 152), (3, 161), (3, 170), (3, 171), (3, 172), (3, 184), (3, 225)]) hK hO k_h0 rfl hP hD hS hA hE [] rfl rfl rfl) rfl rfl hl.1 rfl (lv_room (Nat.le_of_ble_eq_true rfl)) dM_load_223 ⟨by omega, by omega⟩) (fun r97 u71 H locs hu71 hP hD hS => ?_)
                        obtain ⟨q71, pl⟩ := u71
                        obtain ⟨⟨eq71, rfl, hFc71, ⟨x146, hx_146, hb_146⟩, ⟨x147, hx_147, hb_147⟩, ⟨x148, hx_148, hb_148⟩, hxp71, -⟩, hO⟩ := hu71
                        have hO : okn g T q71.2 pl := hO
                        have hP : va_P g.1 vcl ([] ++ pl) _ := hP
                        have hD : va_D _ ([] ++ pl) := hD
                        have hFc71 : frm (M_M_madeP) s35 q71.2 := hFc71
                        have hb_146 : x146 = 0 := hb_146
                        have hb_147 : x147 = rs := hb_147
                        have hb_148 : x148 = ks + 1 := hb_148
                        replace hR := bnd_step hR eq71
                        have hF := frm_tr hF hFc71 (fun k hk => by unfold M_M_madeP at hk; unfold M_M_load; omega)
                        refine W.widen (k := 0) (n := 0) (by omega) (by omega) ?_
                        exact mp_iret hx hb hr hlk hP hD hS ((q71.1, q71.2), pl) ⟨⟨hR.symm, rfl, hF, ⟨x146, hx_146, by omega⟩, ⟨x147, hx_147, by omega⟩, ⟨x148, hx_148, by omega⟩, (by obtain ⟨x9, h9, e9, a9, b9⟩ := hxp71; subst e9; exact ⟨_, h9, by omega, a9, b9⟩), trivial⟩, hO⟩ [] rfl rfl rfl (by omega) (by omega) dM_load_226
                      | succ n28 ih28 =>
                        intro i28 s35 pl ls H locs hm28 hF hf205 hf206 hf207 hf208 hg137 hg138 hR hl hO hP hD hS
                        refine lv_iload_n hx hb dM_load_171 rfl (lv_at hl 3 rfl) ?_
                        refine lv_if_eq (tgt := 209) hx hb dM_load_172 (by decide) (fun h9 => absurd h9 h22) (fun h9 => ?_)
                        refine lv_iload hx hb dM_load_175 (lv_at hl 0 rfl) ?_
                        refine lv_aload_n hx hb dM_load_177 rfl (lv_at hl 1 rfl) ?_
                        refine nw_get (C := "LatticeKeysModel") (TT := T_M) (N := 14) hx hb hts (wg_ft i_M) hown hK hO k_h0 (kn := 148) (ci := 8) (fl := [(0, 0), (0, 0), (0, 0), (0, 0), (3, 149), (3, 150), (3, 151), (3, 152), (3, 161), (3, 170), (3, 171), (3, 172), (3, 184), (3, 225)]) rfl hP rfl 1 (by decide) (hts _ (wg_t kw_1527)) (fun _ h9 => h9) (cd := (0, 0)) rfl dM_load_178 (fun v63 hv65 => ?_)
                        obtain rfl := (show v63 = .int (s35.1 148 1) from hv65)
                        obtain ⟨z66, ez66, hz109, hz110⟩ := cl_of (b := 2147483648) hf205 (by omega) (by decide)
                        replace hR := bnd_step hR ez66
                        refine mi_as hz109 ?_
                        refine mi_ge (tgt := 209) hx hb dM_load_181 (by decide) (by omega) (by omega) (fun h64 => absurd h64 (by omega)) (fun h64 => ?_)
                        refine lv_aload_n hx hb dM_load_184 rfl (lv_at hl 1 rfl) ?_
                        refine nw_get (C := "LatticeKeysModel") (TT := T_M) (N := 14) hx hb hts (wg_ft i_M) hown hK hO k_h0 (kn := 148) (ci := 8) (fl := [(0, 0), (0, 0), (0, 0), (0, 0), (3, 149), (3, 150), (3, 151), (3, 152), (3, 161), (3, 170), (3, 171), (3, 172), (3, 184), (3, 225)]) rfl hP rfl 8 (by decide) (hts _ (wg_t kw_1534)) (fun _ h9 => h9) (cd := (3, 161)) rfl dM_load_185 (fun v64 hv66 => ?_)
                        obtain ⟨r98, rfl, kr47⟩ := (show ∃ r : Nat, v64 = .ref r ∧ T r = some 161 from hv66)
                        refine lv_aload_n hx hb dM_load_188 rfl (lv_at hl 1 rfl) ?_
                        refine nw_get (C := "LatticeKeysModel") (TT := T_M) (N := 14) hx hb hts (wg_ft i_M) hown hK hO k_h0 (kn := 148) (ci := 8) (fl := [(0, 0), (0, 0), (0, 0), (0, 0), (3, 149), (3, 150), (3, 151), (3, 152), (3, 161), (3, 170), (3, 171), (3, 172), (3, 184), (3, 225)]) rfl hP rfl 3 (by decide) (hts _ (wg_t kw_1529)) (fun _ h9 => h9) (cd := (0, 0)) rfl dM_load_189 (fun v65 hv67 => ?_)
                        obtain rfl := (show v65 = .int (s35.1 148 3) from hv67)
                        obtain ⟨z67, ez67, hz111, hz112⟩ := cl_of (b := 2147483648) hf207 (by omega) (by decide)
                        replace hR := bnd_step hR ez67
                        refine mi_as hz111 ?_
                        refine nw_aald4 hx hb hK hO kr47 (k := 161) (b := 162) rfl hP (by omega) (by omega) dM_load_192 (fun r99 kr48 => ?_)
                        have hn27 : nsp (162 + z67) = (1, 4896, []) := rows_okb 162 8 4896 (by decide) _ (by omega)
                        refine lv_iload hx hb dM_load_193 (lv_at hl 0 rfl) ?_
                        refine lv_aload_n hx hb dM_load_195 rfl (lv_at hl 1 rfl) ?_
                        refine nw_get (C := "LatticeKeysModel") (TT := T_M) (N := 14) hx hb hts (wg_ft i_M) hown hK hO k_h0 (kn := 148) (ci := 8) (fl := [(0, 0), (0, 0), (0, 0), (0, 0), (3, 149), (3, 150), (3, 151), (3, 152), (3, 161), (3, 170), (3, 171), (3, 172), (3, 184), (3, 225)]) rfl hP rfl 4 (by decide) (hts _ (wg_t kw_1530)) (fun _ h9 => h9) (cd := (3, 149)) rfl dM_load_196 (fun v66 hv68 => ?_)
                        obtain ⟨r100, rfl, kr49⟩ := (show ∃ r : Nat, v66 = .ref r ∧ T r = some 149 from hv68)
                        refine lv_iload hx hb dM_load_199 (lv_at hl 0 rfl) ?_
                        refine nw_bald hx hb hK hO kr49 (k := 149) rfl hP (by omega) (by omega) dM_load_201 ?_
                        refine nw_bast hx hb hK hO hU kr48 (k := (162 + z67)) hn27 hP hD hS (by omega) (by omega) dM_load_202 (fun s36 pl H locs es28 hO hP hD hS => ?_)
                        replace hR := bnd_step hR es28
                        have hF := frm_sB hF es28 (by unfold M_M_load; omega)
                        have hf209 : s36.1 148 1 = nI tp := fc_B hf205 es28 (by omega)
                        have hf210 : s36.1 148 2 = nI rs := fc_B hf206 es28 (by omega)
                        have hf211 : s36.1 148 3 = nI ks := fc_B hf207 es28 (by omega)
                        have hf212 : s36.1 148 0 = nI 0 := fc_B hf208 es28 (by omega)
                        have hg139 : SETS ks (s36.1 170) := by rw [(ar_sB es28 (by omega))]; exact hg137
                        have hg140 : HIDS ks (s36.1 171) := by rw [(ar_sB es28 (by omega))]; exact hg138
                        refine mi_iinc (k := 0) (x := i28) (d := 1) (y := i28 + 1) (lv' := [(4, .int (nI (i28 + 1))), (0, .ref h0), (1, .int (nI 0)), (2, .int sc)]) hx hb dM_load_203 hl rfl (by decide) rfl (by decide) rfl (fun ls hl => ?_)
                        refine lv_goto (tgt := 171) hx hb dM_load_206 (by decide) ?_
                        exact ih28 (i28 + 1) s36 pl ls H locs (by omega) hF hf209 hf210 hf211 hf212 hg139 hg140 hR (lv_sub hl [0, 1, 2, 3] rfl) hO hP hD hS
                    exact lp28 1632 0 q70.2 pl ls _ _ (by omega) hF hf197 hf198 hf199 hf200 hg135 hg136 hR (lv_sub hl [0, 2, 3, 4] rfl) hO hP hD hS
                  | succ n27 ih27 =>
                    intro i27 s34 pl ls H locs hm27 hF hf213 hf214 hf215 hf216 hg133 hg134 hR hl hO hP hD hS
                    refine lv_iload hx hb dM_load_132 (lv_at hl 0 rfl) ?_
                    refine lv_iload_n hx hb dM_load_134 rfl (lv_at hl 3 rfl) ?_
                    refine mp_i (cx := []) (wr := []) hP hD hS hA [] [] rfl rfl rfl (by decide) (va_runS (As := [.int (nI 0)]) (rest := [.int (nI i27)]) F (N_M_openSize_0 l g _ T s34 pl hO hU ) (va_cwS 1 hts (wg_app (wg_c kw_1764 (wg_c kw_1765 (wg_c kw_9 wg_n))) kw_1766) rfl rfl rfl (by decide +kernel) ⟨by decide, by decide⟩) (pp_S (en_ok g) hP hD hS hA hE [] rfl rfl) rfl rfl hl.1 rfl (lv_room (Nat.le_of_ble_eq_true rfl)) dM_load_135 ⟨by omega, by omega⟩) (fun r101 u72 H locs hu72 hP hD hS => ?_)
                    obtain ⟨q72, pl⟩ := u72
                    obtain ⟨⟨eq72, rfl, hFc72, ⟨x150, hx_150, hb_150⟩, hxp72, -⟩, hO⟩ := hu72
                    have hO : okn g T q72.2 pl := hO
                    have hP : va_P g.1 vcl ([] ++ pl) _ := hP
                    have hD : va_D _ ([] ++ pl) := hD
                    have hFc72 : frm (M_M_openSize_0) s34 q72.2 := hFc72
                    have hb_150 : x150 < 801 := hb_150
                    replace hR := bnd_step hR eq72
                    have hF := frm_tr hF hFc72 (fun k hk => by unfold M_M_openSize_0 at hk; unfold M_M_load; omega)
                    have hf217 : q72.2.1 148 1 = nI tp := fc_F hf213 hFc72 (by unfold M_M_openSize_0; omega)
                    have hf218 : q72.2.1 148 2 = nI rs := fc_F hf214 hFc72 (by unfold M_M_openSize_0; omega)
                    have hf219 : q72.2.1 148 3 = nI ks := fc_F hf215 hFc72 (by unfold M_M_openSize_0; omega)
                    have hf220 : q72.2.1 148 0 = nI 0 := fc_F hf216 hFc72 (by unfold M_M_openSize_0; omega)
                    have hg141 : SETS ks (q72.2.1 170) := by rw [hFc72 170 (by unfold M_M_openSize_0; omega)]; exact hg133
                    have hg142 : HIDS ks (q72.2.1 171) := by rw [hFc72 171 (by unfold M_M_openSize_0; omega)]; exact hg134
                    obtain ⟨z68, ez68, hz113, hz114⟩ := cl_of (b := 2147483648) hx_150 (by omega) (by decide)
                    replace hR := bnd_step hR ez68
                    refine mi_as hz113 ?_
                    have hsz42 : z68 = 800 := (nI_eq (by omega) (by omega)).mp (hz113.symm.trans hxp72)
                    subst hsz42
                    refine W.widen (k := 0) (n := 0) (by omega) (by omega) ?_
                    refine mi_ge (tgt := 168) hx hb dM_load_138 (by decide) (by omega) (by omega) (fun h65 => absurd h65 (by omega)) (fun h65 => ?_)
                    refine lv_aload_n hx hb dM_load_141 rfl (lv_at hl 2 rfl) ?_
                    refine nw_get (C := "LatticeKeysModel") (TT := T_M) (N := 14) hx hb hts (wg_ft i_M) hown hK hO k_h0 (kn := 148) (ci := 8) (fl := [(0, 0), (0, 0), (0, 0), (0, 0), (3, 149), (3, 150), (3, 151), (3, 152), (3, 161), (3, 170), (3, 171), (3, 172), (3, 184), (3, 225)]) rfl hP rfl 7 (by decide) (hts _ (wg_t kw_1533)) (fun _ h9 => h9) (cd := (3, 152)) rfl dM_load_142 (fun v67 hv69 => ?_)
                    obtain ⟨r102, rfl, kr50⟩ := (show ∃ r : Nat, v67 = .ref r ∧ T r = some 152 from hv69)
                    refine lv_aload_n hx hb dM_load_145 rfl (lv_at hl 2 rfl) ?_
                    refine nw_get (C := "LatticeKeysModel") (TT := T_M) (N := 14) hx hb hts (wg_ft i_M) hown hK hO k_h0 (kn := 148) (ci := 8) (fl := [(0, 0), (0, 0), (0, 0), (0, 0), (3, 149), (3, 150), (3, 151), (3, 152), (3, 161), (3, 170), (3, 171), (3, 172), (3, 184), (3, 225)]) rfl hP rfl 3 (by decide) (hts _ (wg_t kw_1529)) (fun _ h9 => h9) (cd := (0, 0)) rfl dM_load_146 (fun v68 hv70 => ?_)
                    obtain rfl := (show v68 = .int (q72.2.1 148 3) from hv70)
                    obtain ⟨z69, ez69, hz115, hz116⟩ := cl_of (b := 2147483648) hf219 (by omega) (by decide)
                    replace hR := bnd_step hR ez69
                    refine mi_as hz115 ?_
                    refine nw_aald4 hx hb hK hO kr50 (k := 152) (b := 153) rfl hP (by omega) (by omega) dM_load_149 (fun r103 kr51 => ?_)
                    have hn28 : nsp (153 + z69) = (1, 2592, []) := rows_okb 153 8 2592 (by decide) _ (by omega)
                    refine lv_iload hx hb dM_load_150 (lv_at hl 0 rfl) ?_
                    refine lv_aload_n hx hb dM_load_152 rfl (lv_at hl 2 rfl) ?_
                    refine nw_get (C := "LatticeKeysModel") (TT := T_M) (N := 14) hx hb hts (wg_ft i_M) hown hK hO k_h0 (kn := 148) (ci := 8) (fl := [(0, 0), (0, 0), (0, 0), (0, 0), (3, 149), (3, 150), (3, 151), (3, 152), (3, 161), (3, 170), (3, 171), (3, 172), (3, 184), (3, 225)]) rfl hP rfl 4 (by decide) (hts _ (wg_t kw_1530)) (fun _ h9 => h9) (cd := (3, 149)) rfl dM_load_153 (fun v69 hv71 => ?_)
                    obtain ⟨r104, rfl, kr52⟩ := (show ∃ r : Nat, v69 = .ref r ∧ T r = some 149 from hv71)
                    refine lv_iload_n hx hb dM_load_156 rfl (lv_at hl 1 rfl) ?_
                    refine lv_iload hx hb dM_load_157 (lv_at hl 0 rfl) ?_
                    refine mi_iadd hx hb dM_load_159 ?_
                    refine nw_bald hx hb hK hO kr52 (k := 149) rfl hP (by omega) (by omega) dM_load_160 ?_
                    refine nw_bast hx hb hK hO hU kr51 (k := (153 + z69)) hn28 hP hD hS (by omega) (by omega) dM_load_161 (fun s37 pl H locs es29 hO hP hD hS => ?_)
                    replace hR := bnd_step hR es29
                    have hF := frm_sB hF es29 (by unfold M_M_load; omega)
                    have hf221 : s37.1 148 1 = nI tp := fc_B hf217 es29 (by omega)
                    have hf222 : s37.1 148 2 = nI rs := fc_B hf218 es29 (by omega)
                    have hf223 : s37.1 148 3 = nI ks := fc_B hf219 es29 (by omega)
                    have hf224 : s37.1 148 0 = nI 0 := fc_B hf220 es29 (by omega)
                    have hg143 : SETS ks (s37.1 170) := by rw [(ar_sB es29 (by omega))]; exact hg141
                    have hg144 : HIDS ks (s37.1 171) := by rw [(ar_sB es29 (by omega))]; exact hg142
                    refine mi_iinc (k := 0) (x := i27) (d := 1) (y := i27 + 1) (lv' := [(4, .int (nI (i27 + 1))), (3, .int (nI 768)), (0, .ref h0), (1, .int (nI 0)), (2, .int sc)]) hx hb dM_load_162 hl rfl (by decide) rfl (by decide) rfl (fun ls hl => ?_)
                    refine lv_goto (tgt := 132) hx hb dM_load_165 (by decide) ?_
                    exact ih27 (i27 + 1) s37 pl ls H locs (by omega) hF hf221 hf222 hf223 hf224 hg143 hg144 hR (lv_sub hl [0, 1, 2, 3, 4] rfl) hO hP hD hS
                exact lp27 800 0 q69.2 pl ls _ _ (by omega) hF hf189 hf190 hf191 hf192 hg131 hg132 hR (lv_sub hl [0, 1, 2, 3, 4] rfl) hO hP hD hS
              · replace hR := hR.trans (if_pos h61)
                refine lv_aload_n hx hb dM_load_107 rfl (lv_at hl 0 rfl) ?_
                refine lv_iconst (v := nI 3) hx hb dM_load_108 (by decide) ?_
                refine mp_i (cx := []) (wr := []) hP hD hS hA [] [] rfl rfl rfl (by decide) (va_runV (As := [.int (nI 3)]) (rest := []) F (N_M_fail l g _ T q67.2 pl hO hU h0 (nI 3) tp rs ks k_h0 hf185 hf186 hf187) (cwV 1 hts (wg_app (wg_c kw_1577 (wg_c kw_1579 (wg_c ks_50 (wg_c kw_9 wg_n)))) kw_1580) rfl rfl rfl (by decide +kernel) ⟨by decide, by decide⟩) (pn_W "LatticeKeysModel" (en_ok g) (ci := 8) (kn := 148) (fl := [(0, 0), (0, 0), (0, 0), (0, 0), (3, 149), (3, 150), (3, 151), (3, 152), (3, 161), (3, 170), (3, 171), (3, 172), (3, 184), (3, 225)]) hK hO k_h0 rfl hP hD hS hA hE [] rfl rfl rfl) rfl rfl hl.1 rfl (lv_room (Nat.le_of_ble_eq_true rfl)) dM_load_109 ⟨by omega, by omega⟩) (fun r105 u73 H locs hu73 hP hD hS => ?_)
                obtain ⟨q73, pl⟩ := u73
                obtain ⟨⟨eq73, rfl, hFc73, ⟨x151, hx_151, hb_151⟩, ⟨x152, hx_152, hb_152⟩, ⟨x153, hx_153, hb_153⟩, -⟩, hO⟩ := hu73
                have hO : okn g T q73.2 pl := hO
                have hP : va_P g.1 vcl ([] ++ pl) _ := hP
                have hD : va_D _ ([] ++ pl) := hD
                have hFc73 : frm (M_M_fail) q67.2 q73.2 := hFc73
                have hb_151 : x151 = tp := hb_151
                have hb_152 : x152 = rs := hb_152
                have hb_153 : x153 = ks := hb_153
                replace hR := bnd_step hR eq73
                have hF := frm_tr hF hFc73 (fun k hk => by unfold M_M_fail at hk; unfold M_M_load; omega)
                have hg145 : SETS ks (q73.2.1 170) := by rw [hFc73 170 (by unfold M_M_fail; omega)]; exact hg127
                have hg146 : HIDS ks (q73.2.1 171) := by rw [hFc73 171 (by unfold M_M_fail; omega)]; exact hg128
                refine W.widen (k := 0) (n := 0) (by omega) (by omega) ?_
                exact mp_iret hx hb hr hlk hP hD hS ((q73.1, q73.2), pl) ⟨⟨hR.symm, rfl, hF, ⟨x151, hx_151, by omega⟩, ⟨x152, hx_152, by omega⟩, ⟨x153, hx_153, by omega⟩, ⟨ks, (hx_153).trans (congrArg nI (show x153 = ks by omega)), by omega, hg145, hg146⟩, trivial⟩, hO⟩ [] rfl rfl rfl (by omega) (by omega) dM_load_112
          · replace hR := hR.trans (if_neg h58)
            refine lv_aload_n hx hb dM_load_44 rfl (lv_at hl 0 rfl) ?_
            refine lv_iconst (v := nI 1) hx hb dM_load_45 (by decide) ?_
            refine mp_i (cx := []) (wr := []) hP hD hS hA [] [] rfl rfl rfl (by decide) (va_runV (As := [.int (nI 1)]) (rest := []) F (N_M_fail l g _ T q66.2 pl hO hU h0 (nI 1) tp rs ks k_h0 hf181 hf182 hf183) (cwV 1 hts (wg_app (wg_c kw_1577 (wg_c kw_1579 (wg_c ks_50 (wg_c kw_9 wg_n)))) kw_1580) rfl rfl rfl (by decide +kernel) ⟨by decide, by decide⟩) (pn_W "LatticeKeysModel" (en_ok g) (ci := 8) (kn := 148) (fl := [(0, 0), (0, 0), (0, 0), (0, 0), (3, 149), (3, 150), (3, 151), (3, 152), (3, 161), (3, 170), (3, 171), (3, 172), (3, 184), (3, 225)]) hK hO k_h0 rfl hP hD hS hA hE [] rfl rfl rfl) rfl rfl hl.1 rfl (lv_room (Nat.le_of_ble_eq_true rfl)) dM_load_46 ⟨by omega, by omega⟩) (fun r106 u74 H locs hu74 hP hD hS => ?_)
            obtain ⟨q74, pl⟩ := u74
            obtain ⟨⟨eq74, rfl, hFc74, ⟨x155, hx_155, hb_155⟩, ⟨x156, hx_156, hb_156⟩, ⟨x157, hx_157, hb_157⟩, -⟩, hO⟩ := hu74
            have hO : okn g T q74.2 pl := hO
            have hP : va_P g.1 vcl ([] ++ pl) _ := hP
            have hD : va_D _ ([] ++ pl) := hD
            have hFc74 : frm (M_M_fail) q66.2 q74.2 := hFc74
            have hb_155 : x155 = tp := hb_155
            have hb_156 : x156 = rs := hb_156
            have hb_157 : x157 = ks := hb_157
            replace hR := bnd_step hR eq74
            have hF := frm_tr hF hFc74 (fun k hk => by unfold M_M_fail at hk; unfold M_M_load; omega)
            have hg147 : SETS ks (q74.2.1 170) := by rw [hFc74 170 (by unfold M_M_fail; omega)]; exact hg125
            have hg148 : HIDS ks (q74.2.1 171) := by rw [hFc74 171 (by unfold M_M_fail; omega)]; exact hg126
            refine W.widen (k := 0) (n := 0) (by omega) (by omega) ?_
            exact mp_iret hx hb hr hlk hP hD hS ((q74.1, q74.2), pl) ⟨⟨hR.symm, rfl, hF, ⟨x155, hx_155, by omega⟩, ⟨x156, hx_156, by omega⟩, ⟨x157, hx_157, by omega⟩, ⟨ks, (hx_157).trans (congrArg nI (show x157 = ks by omega)), by omega, hg147, hg148⟩, trivial⟩, hO⟩ [] rfl rfl rfl (by omega) (by omega) dM_load_49
        replace hR := hR.trans (if_neg hs27)
        by_cases hs28 : z58 = 1
        · replace hR := hR.trans (if_pos hs28)
          subst hs28
          refine lv_aload_n hx hb dM_load_22 rfl (lv_at hl 0 rfl) ?_
          refine nw_get (C := "LatticeKeysModel") (TT := T_M) (N := 14) hx hb hts (wg_ft i_M) hown hK hO k_h0 (kn := 148) (ci := 8) (fl := [(0, 0), (0, 0), (0, 0), (0, 0), (3, 149), (3, 150), (3, 151), (3, 152), (3, 161), (3, 170), (3, 171), (3, 172), (3, 184), (3, 225)]) rfl hP rfl 1 (by decide) (hts _ (wg_t kw_1527)) (fun _ h9 => h9) (cd := (0, 0)) rfl dM_load_23 (fun v70 hv72 => ?_)
          obtain rfl := (show v70 = .int (s21.1 148 1) from hv72)
          obtain ⟨z70, ez70, hz117, hz118⟩ := cl_of (b := 2147483648) hf21 (by omega) (by decide)
          replace hR := bnd_step hR ez70
          refine mi_as hz117 ?_
          refine lv_iload_n hx hb dM_load_26 rfl (lv_at hl 2 rfl) ?_
          refine lv_if_eq (tgt := 37) hx hb dM_load_27 (by decide) (fun h9 => absurd h9 h22) (fun h9 => ?_)
          refine lv_iload_n hx hb dM_load_30 rfl (lv_at hl 1 rfl) ?_
          refine mp_i (cx := []) (wr := []) hP hD hS hA [] [] rfl rfl rfl (by decide) (va_runS (As := [.int (nI 1)]) (rest := [.int (nI z70)]) F (N_M_hiddenSize_1 l g _ T s21 pl hO hU ) (va_cwS 1 hts (wg_app (wg_c kw_1747 (wg_c kw_1748 (wg_c kw_9 wg_n))) kw_1749) rfl rfl rfl (by decide +kernel) ⟨by decide, by decide⟩) (pp_S (en_ok g) hP hD hS hA hE [] rfl rfl) rfl rfl hl.1 rfl (lv_room (Nat.le_of_ble_eq_true rfl)) dM_load_31 ⟨by omega, by omega⟩) (fun r107 u75 H locs hu75 hP hD hS => ?_)
          obtain ⟨q75, pl⟩ := u75
          obtain ⟨⟨eq75, rfl, hFc75, ⟨x159, hx_159, hb_159⟩, hxp75, -⟩, hO⟩ := hu75
          have hO : okn g T q75.2 pl := hO
          have hP : va_P g.1 vcl ([] ++ pl) _ := hP
          have hD : va_D _ ([] ++ pl) := hD
          have hFc75 : frm (M_M_hiddenSize_1) s21 q75.2 := hFc75
          have hb_159 : x159 < 2401 := hb_159
          replace hR := bnd_step hR eq75
          have hF := frm_tr hF hFc75 (fun k hk => by unfold M_M_hiddenSize_1 at hk; unfold M_M_load; omega)
          have hf225 : q75.2.1 148 1 = nI tp := fc_F hf21 hFc75 (by unfold M_M_hiddenSize_1; omega)
          have hf226 : q75.2.1 148 2 = nI rs := fc_F hf22 hFc75 (by unfold M_M_hiddenSize_1; omega)
          have hf227 : q75.2.1 148 3 = nI ks := fc_F hf23 hFc75 (by unfold M_M_hiddenSize_1; omega)
          have hf228 : q75.2.1 148 0 = nI 0 := fc_F hf24 hFc75 (by unfold M_M_hiddenSize_1; omega)
          have hg149 : SETS ks (q75.2.1 170) := by rw [hFc75 170 (by unfold M_M_hiddenSize_1; omega)]; exact hg21
          have hg150 : HIDS ks (q75.2.1 171) := by rw [hFc75 171 (by unfold M_M_hiddenSize_1; omega)]; exact hg22
          obtain ⟨z71, ez71, hz119, hz120⟩ := cl_of (b := 2147483648) hx_159 (by omega) (by decide)
          replace hR := bnd_step hR ez71
          refine mi_as hz119 ?_
          have hsz43 : z71 = 2400 := (nI_eq (by omega) (by omega)).mp (hz119.symm.trans hxp75)
          subst hsz43
          refine W.widen (k := 0) (n := 0) (by omega) (by omega) ?_
          refine lv_goto (tgt := 41) hx hb dM_load_34 (by decide) ?_
          refine mi_eq (tgt := 50) hx hb dM_load_41 (by decide) (by omega) (by omega) (fun h66 => ?_) (fun h66 => ?_)
          · replace hR := hR.trans (if_pos h66)
            refine lv_iload_n hx hb dM_load_50 rfl (lv_at hl 1 rfl) ?_
            refine lv_iconst (v := nI 3) hx hb dM_load_51 (by decide) ?_
            refine mi_ge (tgt := 98) hx hb dM_load_52 (by decide) (by omega) (by omega) (fun h67 => absurd h67 (by omega)) (fun h67 => ?_)
            refine lv_iload_n hx hb dM_load_55 rfl (lv_at hl 2 rfl) ?_
            refine lv_if_eq (tgt := 77) hx hb dM_load_56 (by decide) (fun h9 => absurd h9 h22) (fun h9 => ?_)
            refine lv_aload_n hx hb dM_load_59 rfl (lv_at hl 0 rfl) ?_
            refine nw_get (C := "LatticeKeysModel") (TT := T_M) (N := 14) hx hb hts (wg_ft i_M) hown hK hO k_h0 (kn := 148) (ci := 8) (fl := [(0, 0), (0, 0), (0, 0), (0, 0), (3, 149), (3, 150), (3, 151), (3, 152), (3, 161), (3, 170), (3, 171), (3, 172), (3, 184), (3, 225)]) rfl hP rfl 12 (by decide) (hts _ (wg_t kw_1538)) (fun _ h9 => h9) (cd := (3, 184)) rfl dM_load_60 (fun v71 hv73 => ?_)
            obtain ⟨r108, rfl, kr53⟩ := (show ∃ r : Nat, v71 = .ref r ∧ T r = some 184 from hv73)
            refine lv_iload_n hx hb dM_load_63 rfl (lv_at hl 1 rfl) ?_
            refine lv_aload_n hx hb dM_load_64 rfl (lv_at hl 0 rfl) ?_
            refine nw_get (C := "LatticeKeysModel") (TT := T_M) (N := 14) hx hb hts (wg_ft i_M) hown hK hO k_h0 (kn := 148) (ci := 8) (fl := [(0, 0), (0, 0), (0, 0), (0, 0), (3, 149), (3, 150), (3, 151), (3, 152), (3, 161), (3, 170), (3, 171), (3, 172), (3, 184), (3, 225)]) rfl hP rfl 4 (by decide) (hts _ (wg_t kw_1530)) (fun _ h9 => h9) (cd := (3, 149)) rfl dM_load_65 (fun v72 hv74 => ?_)
            obtain ⟨r109, rfl, kr54⟩ := (show ∃ r : Nat, v72 = .ref r ∧ T r = some 149 from hv74)
            refine mp_i (cx := []) (wr := []) hP hD hS hA [] [] rfl rfl rfl (by decide) (va_runV (As := [.int (nI 1), .ref r109]) (rest := []) F (N_ME_goodHidden_1 l g _ T q75.2 pl hO hU r108 r109 149 kr53 kr54 rfl) (cwV 2 hts (wg_app (wg_c kw_1769 (wg_c kw_1770 (wg_c kw_1771 (wg_c kw_11 wg_n)))) kw_1772) rfl rfl rfl (by decide +kernel) ⟨by decide, by decide⟩) (pn_W "LatticeKeysModel$Secrets" (en_ok g) (ci := 11) (kn := 184) (fl := [(3, 172), (3, 178), (3, 185), (3, 202), (3, 207), (3, 212), (3, 217), (3, 218), (3, 219), (3, 220), (3, 221), (3, 222), (3, 223), (3, 224)]) hK hO kr53 rfl hP hD hS hA hE [] rfl rfl rfl) rfl rfl hl.1 rfl (lv_room (Nat.le_of_ble_eq_true rfl)) dM_load_68 ⟨by omega, by omega⟩) (fun r110 u76 H locs hu76 hP hD hS => ?_)
            obtain ⟨q76, pl⟩ := u76
            obtain ⟨⟨eq76, rfl, hFc76, -⟩, hO⟩ := hu76
            have hO : okn g T q76.2 pl := hO
            have hP : va_P g.1 vcl ([] ++ pl) _ := hP
            have hD : va_D _ ([] ++ pl) := hD
            have hFc76 : frm (M_ME_goodHidden_1) q75.2 q76.2 := hFc76
            replace hR := bnd_step hR eq76
            have hF := frm_tr hF hFc76 (fun k hk => by unfold M_ME_goodHidden_1 at hk; unfold M_M_load; omega)
            have hf229 : q76.2.1 148 1 = nI tp := fc_F hf225 hFc76 (by unfold M_ME_goodHidden_1; omega)
            have hf230 : q76.2.1 148 2 = nI rs := fc_F hf226 hFc76 (by unfold M_ME_goodHidden_1; omega)
            have hf231 : q76.2.1 148 3 = nI ks := fc_F hf227 hFc76 (by unfold M_ME_goodHidden_1; omega)
            have hf232 : q76.2.1 148 0 = nI 0 := fc_F hf228 hFc76 (by unfold M_ME_goodHidden_1; omega)
            have hg151 : SETS ks (q76.2.1 170) := by rw [hFc76 170 (by unfold M_ME_goodHidden_1; omega)]; exact hg149
            have hg152 : HIDS ks (q76.2.1 171) := by rw [hFc76 171 (by unfold M_ME_goodHidden_1; omega)]; exact hg150
            refine W.widen (k := 0) (n := 0) (by omega) (by omega) ?_
            refine lv_if_eq (tgt := 92) hx hb dM_load_71 (by decide) (fun h68 => ?_) (fun h68 => ?_)
            · replace hR := hR.trans (if_pos h68)
              refine lv_aload_n hx hb dM_load_92 rfl (lv_at hl 0 rfl) ?_
              refine lv_iconst (v := nI 2) hx hb dM_load_93 (by decide) ?_
              refine mp_i (cx := []) (wr := []) hP hD hS hA [] [] rfl rfl rfl (by decide) (va_runV (As := [.int (nI 2)]) (rest := []) F (N_M_fail l g _ T q76.2 pl hO hU h0 (nI 2) tp rs ks k_h0 hf229 hf230 hf231) (cwV 1 hts (wg_app (wg_c kw_1577 (wg_c kw_1579 (wg_c ks_50 (wg_c kw_9 wg_n)))) kw_1580) rfl rfl rfl (by decide +kernel) ⟨by decide, by decide⟩) (pn_W "LatticeKeysModel" (en_ok g) (ci := 8) (kn := 148) (fl := [(0, 0), (0, 0), (0, 0), (0, 0), (3, 149), (3, 150), (3, 151), (3, 152), (3, 161), (3, 170), (3, 171), (3, 172), (3, 184), (3, 225)]) hK hO k_h0 rfl hP hD hS hA hE [] rfl rfl rfl) rfl rfl hl.1 rfl (lv_room (Nat.le_of_ble_eq_true rfl)) dM_load_94 ⟨by omega, by omega⟩) (fun r111 u77 H locs hu77 hP hD hS => ?_)
              obtain ⟨q77, pl⟩ := u77
              obtain ⟨⟨eq77, rfl, hFc77, ⟨x161, hx_161, hb_161⟩, ⟨x162, hx_162, hb_162⟩, ⟨x163, hx_163, hb_163⟩, -⟩, hO⟩ := hu77
              have hO : okn g T q77.2 pl := hO
              have hP : va_P g.1 vcl ([] ++ pl) _ := hP
              have hD : va_D _ ([] ++ pl) := hD
              have hFc77 : frm (M_M_fail) q76.2 q77.2 := hFc77
              have hb_161 : x161 = tp := hb_161
              have hb_162 : x162 = rs := hb_162
              have hb_163 : x163 = ks := hb_163
              replace hR := bnd_step hR eq77
              have hF := frm_tr hF hFc77 (fun k hk => by unfold M_M_fail at hk; unfold M_M_load; omega)
              have hg153 : SETS ks (q77.2.1 170) := by rw [hFc77 170 (by unfold M_M_fail; omega)]; exact hg151
              have hg154 : HIDS ks (q77.2.1 171) := by rw [hFc77 171 (by unfold M_M_fail; omega)]; exact hg152
              refine W.widen (k := 0) (n := 0) (by omega) (by omega) ?_
              exact mp_iret hx hb hr hlk hP hD hS ((q77.1, q77.2), pl) ⟨⟨hR.symm, rfl, hF, ⟨x161, hx_161, by omega⟩, ⟨x162, hx_162, by omega⟩, ⟨x163, hx_163, by omega⟩, ⟨ks, (hx_163).trans (congrArg nI (show x163 = ks by omega)), by omega, hg153, hg154⟩, trivial⟩, hO⟩ [] rfl rfl rfl (by omega) (by omega) dM_load_97
            · replace hR := hR.trans (if_neg h68)
              refine lv_goto (tgt := 98) hx hb dM_load_74 (by decide) ?_
              refine lv_aload_n hx hb dM_load_98 rfl (lv_at hl 0 rfl) ?_
              refine nw_get (C := "LatticeKeysModel") (TT := T_M) (N := 14) hx hb hts (wg_ft i_M) hown hK hO k_h0 (kn := 148) (ci := 8) (fl := [(0, 0), (0, 0), (0, 0), (0, 0), (3, 149), (3, 150), (3, 151), (3, 152), (3, 161), (3, 170), (3, 171), (3, 172), (3, 184), (3, 225)]) rfl hP rfl 3 (by decide) (hts _ (wg_t kw_1529)) (fun _ h9 => h9) (cd := (0, 0)) rfl dM_load_99 (fun v73 hv75 => ?_)
              obtain rfl := (show v73 = .int (q76.2.1 148 3) from hv75)
              obtain ⟨z72, ez72, hz121, hz122⟩ := cl_of (b := 2147483648) hf231 (by omega) (by decide)
              replace hR := bnd_step hR ez72
              refine mi_as hz121 ?_
              refine lv_bipush (v := nI 8) hx hb dM_load_102 (by decide) ?_
              refine mi_ne (tgt := 113) hx hb dM_load_104 (by decide) (by omega) (by omega) (fun h69 => ?_) (fun h69 => ?_)
              · replace hR := hR.trans (if_neg h69)
                refine lv_iload_n hx hb dM_load_113 rfl (lv_at hl 2 rfl) ?_
                refine lv_if_eq (tgt := 127) hx hb dM_load_114 (by decide) (fun h9 => absurd h9 h22) (fun h9 => ?_)
                refine lv_iload_n hx hb dM_load_117 rfl (lv_at hl 1 rfl) ?_
                refine mp_i (cx := []) (wr := []) hP hD hS hA [] [] rfl rfl rfl (by decide) (va_runS (As := [.int (nI 1)]) (rest := []) F (N_M_openSize_1 l g _ T q76.2 pl hO hU ) (va_cwS 1 hts (wg_app (wg_c kw_1764 (wg_c kw_1765 (wg_c kw_9 wg_n))) kw_1766) rfl rfl rfl (by decide +kernel) ⟨by decide, by decide⟩) (pp_S (en_ok g) hP hD hS hA hE [] rfl rfl) rfl rfl hl.1 rfl (lv_room (Nat.le_of_ble_eq_true rfl)) dM_load_118 ⟨by omega, by omega⟩) (fun r112 u78 H locs hu78 hP hD hS => ?_)
                obtain ⟨q78, pl⟩ := u78
                obtain ⟨⟨eq78, rfl, hFc78, ⟨x165, hx_165, hb_165⟩, hxp78, -⟩, hO⟩ := hu78
                have hO : okn g T q78.2 pl := hO
                have hP : va_P g.1 vcl ([] ++ pl) _ := hP
                have hD : va_D _ ([] ++ pl) := hD
                have hFc78 : frm (M_M_openSize_1) q76.2 q78.2 := hFc78
                have hb_165 : x165 < 1185 := hb_165
                replace hR := bnd_step hR eq78
                have hF := frm_tr hF hFc78 (fun k hk => by unfold M_M_openSize_1 at hk; unfold M_M_load; omega)
                have hf233 : q78.2.1 148 1 = nI tp := fc_F hf229 hFc78 (by unfold M_M_openSize_1; omega)
                have hf234 : q78.2.1 148 2 = nI rs := fc_F hf230 hFc78 (by unfold M_M_openSize_1; omega)
                have hf235 : q78.2.1 148 3 = nI ks := fc_F hf231 hFc78 (by unfold M_M_openSize_1; omega)
                have hf236 : q78.2.1 148 0 = nI 0 := fc_F hf232 hFc78 (by unfold M_M_openSize_1; omega)
                have hg155 : SETS ks (q78.2.1 170) := by rw [hFc78 170 (by unfold M_M_openSize_1; omega)]; exact hg151
                have hg156 : HIDS ks (q78.2.1 171) := by rw [hFc78 171 (by unfold M_M_openSize_1; omega)]; exact hg152
                obtain ⟨z73, ez73, hz123, hz124⟩ := cl_of (b := 2147483648) hx_165 (by omega) (by decide)
                replace hR := bnd_step hR ez73
                refine mi_as hz123 ?_
                have hsz44 : z73 = 1184 := (nI_eq (by omega) (by omega)).mp (hz123.symm.trans hxp78)
                subst hsz44
                refine W.widen (k := 0) (n := 0) (by omega) (by omega) ?_
                refine lv_bipush (v := nI 32) hx hb dM_load_121 (by decide) ?_
                refine mi_isub hx hb dM_load_123 (by omega) ?_
                refine mi_as (show nI (1184 - 32) = nI 1152 from rfl) ?_
                refine lv_goto (tgt := 128) hx hb dM_load_124 (by decide) ?_
                refine lv_istore_n (lv' := [(3, .int (nI 1152)), (0, .ref h0), (1, .int (nI 1)), (2, .int sc)]) hx hb dM_load_128 rfl hl (by decide) rfl (fun ls hl => ?_)
                refine lv_iconst (v := nI 0) hx hb dM_load_129 (by decide) ?_
                refine lv_istore (lv' := [(4, .int (nI 0)), (3, .int (nI 1152)), (0, .ref h0), (1, .int (nI 1)), (2, .int sc)]) hx hb dM_load_130 hl (by decide) rfl (fun ls hl => ?_)
                have lp29 : ∀ (n29 : Nat) (i29 : Nat) (s38 : Sto) (pl : va_W) (ls : Array Slot) (H : Heap) (locs : List Loc), n29 + i29 = 1184 → frm (M_M_load) s s38 → s38.1 148 1 = nI tp → s38.1 148 2 = nI rs → s38.1 148 3 = nI ks → s38.1 148 0 = nI 0 → (SETS ks (s38.1 170)) → (HIDS ks (s38.1 171)) → F_M_load v sc s = F_M_load_L8 n29 i29 s38 → lv_has ls 5 [(4, .int (nI i29)), (3, .int (nI 1152)), (0, .ref h0), (1, .int (nI 1)), (2, .int sc)] → okn g T s38 pl → va_P g.1 vcl ([] ++ pl) H → va_D A ([] ++ pl) → va_S A s0.heap H locs → W p l e ({ frames := 6, cells := 0, slots := 0, locals := 139 } : Room) s0 m args below meth c H locs 0 0 (MQ below (va_Qi (fun (r : Int32) (u : (Int32 × Sto) × va_W) => (u.1 = F_M_load v sc s ∧ r = u.1.1 ∧ frm (M_M_load) s u.1.2 ∧ (∃ x : Nat, u.1.2.1 148 1 = nI x ∧ x ≤ 16384) ∧ (∃ x : Nat, u.1.2.1 148 2 = nI x ∧ x ≤ 8192) ∧ (∃ x : Nat, u.1.2.1 148 3 = nI x ∧ x ≤ 8) ∧ (∃ x : Nat, u.1.2.1 148 3 = nI x ∧ x ≤ 8 ∧ SETS x (u.1.2.1 170) ∧ HIDS x (u.1.2.1 171)) ∧ True) ∧ okn g T u.1.2 u.2) (po g.1 vcl A (fun (u : (Int32 × Sto) × va_W) => [] ++ u.2)) A) args s0 0 0 A) (F0 m 132 ls []) := by
                  intro n29
                  induction n29 with
                  | zero =>
                    intro i29 s38 pl ls H locs hm29 hF hf237 hf238 hf239 hf240 hg157 hg158 hR hl hO hP hD hS
                    refine lv_iload hx hb dM_load_132 (lv_at hl 0 rfl) ?_
                    refine lv_iload_n hx hb dM_load_134 rfl (lv_at hl 3 rfl) ?_
                    refine mp_i (cx := []) (wr := []) hP hD hS hA [] [] rfl rfl rfl (by decide) (va_runS (As := [.int (nI 1)]) (rest := [.int (nI i29)]) F (N_M_openSize_1 l g _ T s38 pl hO hU ) (va_cwS 1 hts (wg_app (wg_c kw_1764 (wg_c kw_1765 (wg_c kw_9 wg_n))) kw_1766) rfl rfl rfl (by decide +kernel) ⟨by decide, by decide⟩) (pp_S (en_ok g) hP hD hS hA hE [] rfl rfl) rfl rfl hl.1 rfl (lv_room (Nat.le_of_ble_eq_true rfl)) dM_load_135 ⟨by omega, by omega⟩) (fun r113 u79 H locs hu79 hP hD hS => ?_)
                    obtain ⟨q79, pl⟩ := u79
                    obtain ⟨⟨eq79, rfl, hFc79, ⟨x166, hx_166, hb_166⟩, hxp79, -⟩, hO⟩ := hu79
                    have hO : okn g T q79.2 pl := hO
                    have hP : va_P g.1 vcl ([] ++ pl) _ := hP
                    have hD : va_D _ ([] ++ pl) := hD
                    have hFc79 : frm (M_M_openSize_1) s38 q79.2 := hFc79
                    have hb_166 : x166 < 1185 := hb_166
                    replace hR := bnd_step hR eq79
                    have hF := frm_tr hF hFc79 (fun k hk => by unfold M_M_openSize_1 at hk; unfold M_M_load; omega)
                    have hf241 : q79.2.1 148 1 = nI tp := fc_F hf237 hFc79 (by unfold M_M_openSize_1; omega)
                    have hf242 : q79.2.1 148 2 = nI rs := fc_F hf238 hFc79 (by unfold M_M_openSize_1; omega)
                    have hf243 : q79.2.1 148 3 = nI ks := fc_F hf239 hFc79 (by unfold M_M_openSize_1; omega)
                    have hf244 : q79.2.1 148 0 = nI 0 := fc_F hf240 hFc79 (by unfold M_M_openSize_1; omega)
                    have hg159 : SETS ks (q79.2.1 170) := by rw [hFc79 170 (by unfold M_M_openSize_1; omega)]; exact hg157
                    have hg160 : HIDS ks (q79.2.1 171) := by rw [hFc79 171 (by unfold M_M_openSize_1; omega)]; exact hg158
                    obtain ⟨z74, ez74, hz125, hz126⟩ := cl_of (b := 2147483648) hx_166 (by omega) (by decide)
                    replace hR := bnd_step hR ez74
                    refine mi_as hz125 ?_
                    have hsz45 : z74 = 1184 := (nI_eq (by omega) (by omega)).mp (hz125.symm.trans hxp79)
                    subst hsz45
                    refine W.widen (k := 0) (n := 0) (by omega) (by omega) ?_
                    refine mi_ge (tgt := 168) hx hb dM_load_138 (by decide) (by omega) (by omega) (fun h70 => ?_) (fun h70 => absurd h70 (by omega))
                    refine lv_iconst (v := nI 0) hx hb dM_load_168 (by decide) ?_
                    refine lv_istore (lv' := [(4, .int (nI 0)), (3, .int (nI 1152)), (0, .ref h0), (1, .int (nI 1)), (2, .int sc)]) hx hb dM_load_169 hl (by decide) rfl (fun ls hl => ?_)
                    have lp30 : ∀ (n30 : Nat) (i30 : Nat) (s39 : Sto) (pl : va_W) (ls : Array Slot) (H : Heap) (locs : List Loc), n30 + i30 = 2400 → frm (M_M_load) s s39 → s39.1 148 1 = nI tp → s39.1 148 2 = nI rs → s39.1 148 3 = nI ks → s39.1 148 0 = nI 0 → (SETS ks (s39.1 170)) → (HIDS ks (s39.1 171)) → F_M_load v sc s = F_M_load_L9 n30 i30 s39 → lv_has ls 5 [(4, .int (nI i30)), (0, .ref h0), (1, .int (nI 1)), (2, .int sc)] → okn g T s39 pl → va_P g.1 vcl ([] ++ pl) H → va_D A ([] ++ pl) → va_S A s0.heap H locs → W p l e ({ frames := 6, cells := 0, slots := 0, locals := 139 } : Room) s0 m args below meth c H locs 0 0 (MQ below (va_Qi (fun (r : Int32) (u : (Int32 × Sto) × va_W) => (u.1 = F_M_load v sc s ∧ r = u.1.1 ∧ frm (M_M_load) s u.1.2 ∧ (∃ x : Nat, u.1.2.1 148 1 = nI x ∧ x ≤ 16384) ∧ (∃ x : Nat, u.1.2.1 148 2 = nI x ∧ x ≤ 8192) ∧ (∃ x : Nat, u.1.2.1 148 3 = nI x ∧ x ≤ 8) ∧ (∃ x : Nat, u.1.2.1 148 3 = nI x ∧ x ≤ 8 ∧ SETS x (u.1.2.1 170) ∧ HIDS x (u.1.2.1 171)) ∧ True) ∧ okn g T u.1.2 u.2) (po g.1 vcl A (fun (u : (Int32 × Sto) × va_W) => [] ++ u.2)) A) args s0 0 0 A) (F0 m 171 ls []) := by
                      intro n30
                      induction n30 with
                      | zero =>
                        intro i30 s39 pl ls H locs hm30 hF hf245 hf246 hf247 hf248 hg161 hg162 hR hl hO hP hD hS
                        refine lv_iload_n hx hb dM_load_171 rfl (lv_at hl 3 rfl) ?_
                        refine lv_if_eq (tgt := 209) hx hb dM_load_172 (by decide) (fun h9 => absurd h9 h22) (fun h9 => ?_)
                        refine lv_iload hx hb dM_load_175 (lv_at hl 0 rfl) ?_
                        refine lv_aload_n hx hb dM_load_177 rfl (lv_at hl 1 rfl) ?_
                        refine nw_get (C := "LatticeKeysModel") (TT := T_M) (N := 14) hx hb hts (wg_ft i_M) hown hK hO k_h0 (kn := 148) (ci := 8) (fl := [(0, 0), (0, 0), (0, 0), (0, 0), (3, 149), (3, 150), (3, 151), (3, 152), (3, 161), (3, 170), (3, 171), (3, 172), (3, 184), (3, 225)]) rfl hP rfl 1 (by decide) (hts _ (wg_t kw_1527)) (fun _ h9 => h9) (cd := (0, 0)) rfl dM_load_178 (fun v74 hv76 => ?_)
                        obtain rfl := (show v74 = .int (s39.1 148 1) from hv76)
                        obtain ⟨z75, ez75, hz127, hz128⟩ := cl_of (b := 2147483648) hf245 (by omega) (by decide)
                        replace hR := bnd_step hR ez75
                        refine mi_as hz127 ?_
                        refine mi_ge (tgt := 209) hx hb dM_load_181 (by decide) (by omega) (by omega) (fun h71 => ?_) (fun h71 => absurd h71 (by omega))
                        refine lv_aload_n hx hb dM_load_209 rfl (lv_at hl 1 rfl) ?_
                        refine lv_iload_n hx hb dM_load_210 rfl (lv_at hl 2 rfl) ?_
                        refine lv_iload_n hx hb dM_load_211 rfl (lv_at hl 3 rfl) ?_
                        refine lv_if_eq (tgt := 222) hx hb dM_load_212 (by decide) (fun h9 => absurd h9 h22) (fun h9 => ?_)
                        refine lv_aload_n hx hb dM_load_215 rfl (lv_at hl 1 rfl) ?_
                        refine nw_get (C := "LatticeKeysModel") (TT := T_M) (N := 14) hx hb hts (wg_ft i_M) hown hK hO k_h0 (kn := 148) (ci := 8) (fl := [(0, 0), (0, 0), (0, 0), (0, 0), (3, 149), (3, 150), (3, 151), (3, 152), (3, 161), (3, 170), (3, 171), (3, 172), (3, 184), (3, 225)]) rfl hP rfl 1 (by decide) (hts _ (wg_t kw_1527)) (fun _ h9 => h9) (cd := (0, 0)) rfl dM_load_216 (fun v75 hv77 => ?_)
                        obtain rfl := (show v75 = .int (s39.1 148 1) from hv77)
                        obtain ⟨z76, ez76, hz129, hz130⟩ := cl_of (b := 2147483648) hf245 (by omega) (by decide)
                        replace hR := bnd_step hR ez76
                        refine mi_as hz129 ?_
                        refine lv_goto (tgt := 223) hx hb dM_load_219 (by decide) ?_
                        refine mp_i (cx := []) (wr := []) hP hD hS hA [] [] rfl rfl rfl (by decide) (va_runV (As := [.int (nI 1), .int (nI z76)]) (rest := []) F (N_M_madeP l g _ T s39 pl hO hU h0 1 z76 tp rs ks k_h0 hf245 hf246 hf247 (by omega) (by omega) (by omega) hg161 hg162) (cwV 2 hts (wg_app (wg_c kw_1756 (wg_c kw_1758 (wg_c ks_64 (wg_c kw_9 wg_n)))) kw_1759) rfl rfl rfl (by decide +kernel) ⟨by decide, by decide⟩) (pn_W "LatticeKeysModel" (en_ok g) (ci := 8) (kn := 148) (fl := [(0, 0), (0, 0), (0, 0), (0, 0), (3, 149), (3, 150), (3, 151), (3, 152), (3, 161), (3, 170), (3, 171), (3, 172), (3, 184), (3, 225)]) hK hO k_h0 rfl hP hD hS hA hE [] rfl rfl rfl) rfl rfl hl.1 rfl (lv_room (Nat.le_of_ble_eq_true rfl)) dM_load_223 ⟨by omega, by omega⟩) (fun r114 u80 H locs hu80 hP hD hS => ?_)
                        obtain ⟨q80, pl⟩ := u80
                        obtain ⟨⟨eq80, rfl, hFc80, ⟨x167, hx_167, hb_167⟩, ⟨x168, hx_168, hb_168⟩, ⟨x169, hx_169, hb_169⟩, hxp80, -⟩, hO⟩ := hu80
                        have hO : okn g T q80.2 pl := hO
                        have hP : va_P g.1 vcl ([] ++ pl) _ := hP
                        have hD : va_D _ ([] ++ pl) := hD
                        have hFc80 : frm (M_M_madeP) s39 q80.2 := hFc80
                        have hb_167 : x167 = 0 := hb_167
                        have hb_168 : x168 = rs := hb_168
                        have hb_169 : x169 = ks + 1 := hb_169
                        replace hR := bnd_step hR eq80
                        have hF := frm_tr hF hFc80 (fun k hk => by unfold M_M_madeP at hk; unfold M_M_load; omega)
                        refine W.widen (k := 0) (n := 0) (by omega) (by omega) ?_
                        exact mp_iret hx hb hr hlk hP hD hS ((q80.1, q80.2), pl) ⟨⟨hR.symm, rfl, hF, ⟨x167, hx_167, by omega⟩, ⟨x168, hx_168, by omega⟩, ⟨x169, hx_169, by omega⟩, (by obtain ⟨x9, h9, e9, a9, b9⟩ := hxp80; subst e9; exact ⟨_, h9, by omega, a9, b9⟩), trivial⟩, hO⟩ [] rfl rfl rfl (by omega) (by omega) dM_load_226
                      | succ n30 ih30 =>
                        intro i30 s39 pl ls H locs hm30 hF hf249 hf250 hf251 hf252 hg161 hg162 hR hl hO hP hD hS
                        refine lv_iload_n hx hb dM_load_171 rfl (lv_at hl 3 rfl) ?_
                        refine lv_if_eq (tgt := 209) hx hb dM_load_172 (by decide) (fun h9 => absurd h9 h22) (fun h9 => ?_)
                        refine lv_iload hx hb dM_load_175 (lv_at hl 0 rfl) ?_
                        refine lv_aload_n hx hb dM_load_177 rfl (lv_at hl 1 rfl) ?_
                        refine nw_get (C := "LatticeKeysModel") (TT := T_M) (N := 14) hx hb hts (wg_ft i_M) hown hK hO k_h0 (kn := 148) (ci := 8) (fl := [(0, 0), (0, 0), (0, 0), (0, 0), (3, 149), (3, 150), (3, 151), (3, 152), (3, 161), (3, 170), (3, 171), (3, 172), (3, 184), (3, 225)]) rfl hP rfl 1 (by decide) (hts _ (wg_t kw_1527)) (fun _ h9 => h9) (cd := (0, 0)) rfl dM_load_178 (fun v76 hv78 => ?_)
                        obtain rfl := (show v76 = .int (s39.1 148 1) from hv78)
                        obtain ⟨z77, ez77, hz131, hz132⟩ := cl_of (b := 2147483648) hf249 (by omega) (by decide)
                        replace hR := bnd_step hR ez77
                        refine mi_as hz131 ?_
                        refine mi_ge (tgt := 209) hx hb dM_load_181 (by decide) (by omega) (by omega) (fun h72 => absurd h72 (by omega)) (fun h72 => ?_)
                        refine lv_aload_n hx hb dM_load_184 rfl (lv_at hl 1 rfl) ?_
                        refine nw_get (C := "LatticeKeysModel") (TT := T_M) (N := 14) hx hb hts (wg_ft i_M) hown hK hO k_h0 (kn := 148) (ci := 8) (fl := [(0, 0), (0, 0), (0, 0), (0, 0), (3, 149), (3, 150), (3, 151), (3, 152), (3, 161), (3, 170), (3, 171), (3, 172), (3, 184), (3, 225)]) rfl hP rfl 8 (by decide) (hts _ (wg_t kw_1534)) (fun _ h9 => h9) (cd := (3, 161)) rfl dM_load_185 (fun v77 hv79 => ?_)
                        obtain ⟨r115, rfl, kr55⟩ := (show ∃ r : Nat, v77 = .ref r ∧ T r = some 161 from hv79)
                        refine lv_aload_n hx hb dM_load_188 rfl (lv_at hl 1 rfl) ?_
                        refine nw_get (C := "LatticeKeysModel") (TT := T_M) (N := 14) hx hb hts (wg_ft i_M) hown hK hO k_h0 (kn := 148) (ci := 8) (fl := [(0, 0), (0, 0), (0, 0), (0, 0), (3, 149), (3, 150), (3, 151), (3, 152), (3, 161), (3, 170), (3, 171), (3, 172), (3, 184), (3, 225)]) rfl hP rfl 3 (by decide) (hts _ (wg_t kw_1529)) (fun _ h9 => h9) (cd := (0, 0)) rfl dM_load_189 (fun v78 hv80 => ?_)
                        obtain rfl := (show v78 = .int (s39.1 148 3) from hv80)
                        obtain ⟨z78, ez78, hz133, hz134⟩ := cl_of (b := 2147483648) hf251 (by omega) (by decide)
                        replace hR := bnd_step hR ez78
                        refine mi_as hz133 ?_
                        refine nw_aald4 hx hb hK hO kr55 (k := 161) (b := 162) rfl hP (by omega) (by omega) dM_load_192 (fun r116 kr56 => ?_)
                        have hn29 : nsp (162 + z78) = (1, 4896, []) := rows_okb 162 8 4896 (by decide) _ (by omega)
                        refine lv_iload hx hb dM_load_193 (lv_at hl 0 rfl) ?_
                        refine lv_aload_n hx hb dM_load_195 rfl (lv_at hl 1 rfl) ?_
                        refine nw_get (C := "LatticeKeysModel") (TT := T_M) (N := 14) hx hb hts (wg_ft i_M) hown hK hO k_h0 (kn := 148) (ci := 8) (fl := [(0, 0), (0, 0), (0, 0), (0, 0), (3, 149), (3, 150), (3, 151), (3, 152), (3, 161), (3, 170), (3, 171), (3, 172), (3, 184), (3, 225)]) rfl hP rfl 4 (by decide) (hts _ (wg_t kw_1530)) (fun _ h9 => h9) (cd := (3, 149)) rfl dM_load_196 (fun v79 hv81 => ?_)
                        obtain ⟨r117, rfl, kr57⟩ := (show ∃ r : Nat, v79 = .ref r ∧ T r = some 149 from hv81)
                        refine lv_iload hx hb dM_load_199 (lv_at hl 0 rfl) ?_
                        refine nw_bald hx hb hK hO kr57 (k := 149) rfl hP (by omega) (by omega) dM_load_201 ?_
                        refine nw_bast hx hb hK hO hU kr56 (k := (162 + z78)) hn29 hP hD hS (by omega) (by omega) dM_load_202 (fun s40 pl H locs es30 hO hP hD hS => ?_)
                        replace hR := bnd_step hR es30
                        have hF := frm_sB hF es30 (by unfold M_M_load; omega)
                        have hf253 : s40.1 148 1 = nI tp := fc_B hf249 es30 (by omega)
                        have hf254 : s40.1 148 2 = nI rs := fc_B hf250 es30 (by omega)
                        have hf255 : s40.1 148 3 = nI ks := fc_B hf251 es30 (by omega)
                        have hf256 : s40.1 148 0 = nI 0 := fc_B hf252 es30 (by omega)
                        have hg163 : SETS ks (s40.1 170) := by rw [(ar_sB es30 (by omega))]; exact hg161
                        have hg164 : HIDS ks (s40.1 171) := by rw [(ar_sB es30 (by omega))]; exact hg162
                        refine mi_iinc (k := 0) (x := i30) (d := 1) (y := i30 + 1) (lv' := [(4, .int (nI (i30 + 1))), (0, .ref h0), (1, .int (nI 1)), (2, .int sc)]) hx hb dM_load_203 hl rfl (by decide) rfl (by decide) rfl (fun ls hl => ?_)
                        refine lv_goto (tgt := 171) hx hb dM_load_206 (by decide) ?_
                        exact ih30 (i30 + 1) s40 pl ls H locs (by omega) hF hf253 hf254 hf255 hf256 hg163 hg164 hR (lv_sub hl [0, 1, 2, 3] rfl) hO hP hD hS
                    exact lp30 2400 0 q79.2 pl ls _ _ (by omega) hF hf241 hf242 hf243 hf244 hg159 hg160 hR (lv_sub hl [0, 2, 3, 4] rfl) hO hP hD hS
                  | succ n29 ih29 =>
                    intro i29 s38 pl ls H locs hm29 hF hf257 hf258 hf259 hf260 hg157 hg158 hR hl hO hP hD hS
                    refine lv_iload hx hb dM_load_132 (lv_at hl 0 rfl) ?_
                    refine lv_iload_n hx hb dM_load_134 rfl (lv_at hl 3 rfl) ?_
                    refine mp_i (cx := []) (wr := []) hP hD hS hA [] [] rfl rfl rfl (by decide) (va_runS (As := [.int (nI 1)]) (rest := [.int (nI i29)]) F (N_M_openSize_1 l g _ T s38 pl hO hU ) (va_cwS 1 hts (wg_app (wg_c kw_1764 (wg_c kw_1765 (wg_c kw_9 wg_n))) kw_1766) rfl rfl rfl (by decide +kernel) ⟨by decide, by decide⟩) (pp_S (en_ok g) hP hD hS hA hE [] rfl rfl) rfl rfl hl.1 rfl (lv_room (Nat.le_of_ble_eq_true rfl)) dM_load_135 ⟨by omega, by omega⟩) (fun r118 u81 H locs hu81 hP hD hS => ?_)
                    obtain ⟨q81, pl⟩ := u81
                    obtain ⟨⟨eq81, rfl, hFc81, ⟨x171, hx_171, hb_171⟩, hxp81, -⟩, hO⟩ := hu81
                    have hO : okn g T q81.2 pl := hO
                    have hP : va_P g.1 vcl ([] ++ pl) _ := hP
                    have hD : va_D _ ([] ++ pl) := hD
                    have hFc81 : frm (M_M_openSize_1) s38 q81.2 := hFc81
                    have hb_171 : x171 < 1185 := hb_171
                    replace hR := bnd_step hR eq81
                    have hF := frm_tr hF hFc81 (fun k hk => by unfold M_M_openSize_1 at hk; unfold M_M_load; omega)
                    have hf261 : q81.2.1 148 1 = nI tp := fc_F hf257 hFc81 (by unfold M_M_openSize_1; omega)
                    have hf262 : q81.2.1 148 2 = nI rs := fc_F hf258 hFc81 (by unfold M_M_openSize_1; omega)
                    have hf263 : q81.2.1 148 3 = nI ks := fc_F hf259 hFc81 (by unfold M_M_openSize_1; omega)
                    have hf264 : q81.2.1 148 0 = nI 0 := fc_F hf260 hFc81 (by unfold M_M_openSize_1; omega)
                    have hg165 : SETS ks (q81.2.1 170) := by rw [hFc81 170 (by unfold M_M_openSize_1; omega)]; exact hg157
                    have hg166 : HIDS ks (q81.2.1 171) := by rw [hFc81 171 (by unfold M_M_openSize_1; omega)]; exact hg158
                    obtain ⟨z79, ez79, hz135, hz136⟩ := cl_of (b := 2147483648) hx_171 (by omega) (by decide)
                    replace hR := bnd_step hR ez79
                    refine mi_as hz135 ?_
                    have hsz46 : z79 = 1184 := (nI_eq (by omega) (by omega)).mp (hz135.symm.trans hxp81)
                    subst hsz46
                    refine W.widen (k := 0) (n := 0) (by omega) (by omega) ?_
                    refine mi_ge (tgt := 168) hx hb dM_load_138 (by decide) (by omega) (by omega) (fun h73 => absurd h73 (by omega)) (fun h73 => ?_)
                    refine lv_aload_n hx hb dM_load_141 rfl (lv_at hl 2 rfl) ?_
                    refine nw_get (C := "LatticeKeysModel") (TT := T_M) (N := 14) hx hb hts (wg_ft i_M) hown hK hO k_h0 (kn := 148) (ci := 8) (fl := [(0, 0), (0, 0), (0, 0), (0, 0), (3, 149), (3, 150), (3, 151), (3, 152), (3, 161), (3, 170), (3, 171), (3, 172), (3, 184), (3, 225)]) rfl hP rfl 7 (by decide) (hts _ (wg_t kw_1533)) (fun _ h9 => h9) (cd := (3, 152)) rfl dM_load_142 (fun v80 hv82 => ?_)
                    obtain ⟨r119, rfl, kr58⟩ := (show ∃ r : Nat, v80 = .ref r ∧ T r = some 152 from hv82)
                    refine lv_aload_n hx hb dM_load_145 rfl (lv_at hl 2 rfl) ?_
                    refine nw_get (C := "LatticeKeysModel") (TT := T_M) (N := 14) hx hb hts (wg_ft i_M) hown hK hO k_h0 (kn := 148) (ci := 8) (fl := [(0, 0), (0, 0), (0, 0), (0, 0), (3, 149), (3, 150), (3, 151), (3, 152), (3, 161), (3, 170), (3, 171), (3, 172), (3, 184), (3, 225)]) rfl hP rfl 3 (by decide) (hts _ (wg_t kw_1529)) (fun _ h9 => h9) (cd := (0, 0)) rfl dM_load_146 (fun v81 hv83 => ?_)
                    obtain rfl := (show v81 = .int (q81.2.1 148 3) from hv83)
                    obtain ⟨z80, ez80, hz137, hz138⟩ := cl_of (b := 2147483648) hf263 (by omega) (by decide)
                    replace hR := bnd_step hR ez80
                    refine mi_as hz137 ?_
                    refine nw_aald4 hx hb hK hO kr58 (k := 152) (b := 153) rfl hP (by omega) (by omega) dM_load_149 (fun r120 kr59 => ?_)
                    have hn30 : nsp (153 + z80) = (1, 2592, []) := rows_okb 153 8 2592 (by decide) _ (by omega)
                    refine lv_iload hx hb dM_load_150 (lv_at hl 0 rfl) ?_
                    refine lv_aload_n hx hb dM_load_152 rfl (lv_at hl 2 rfl) ?_
                    refine nw_get (C := "LatticeKeysModel") (TT := T_M) (N := 14) hx hb hts (wg_ft i_M) hown hK hO k_h0 (kn := 148) (ci := 8) (fl := [(0, 0), (0, 0), (0, 0), (0, 0), (3, 149), (3, 150), (3, 151), (3, 152), (3, 161), (3, 170), (3, 171), (3, 172), (3, 184), (3, 225)]) rfl hP rfl 4 (by decide) (hts _ (wg_t kw_1530)) (fun _ h9 => h9) (cd := (3, 149)) rfl dM_load_153 (fun v82 hv84 => ?_)
                    obtain ⟨r121, rfl, kr60⟩ := (show ∃ r : Nat, v82 = .ref r ∧ T r = some 149 from hv84)
                    refine lv_iload_n hx hb dM_load_156 rfl (lv_at hl 1 rfl) ?_
                    refine lv_iload hx hb dM_load_157 (lv_at hl 0 rfl) ?_
                    refine mi_iadd hx hb dM_load_159 ?_
                    refine nw_bald hx hb hK hO kr60 (k := 149) rfl hP (by omega) (by omega) dM_load_160 ?_
                    refine nw_bast hx hb hK hO hU kr59 (k := (153 + z80)) hn30 hP hD hS (by omega) (by omega) dM_load_161 (fun s41 pl H locs es31 hO hP hD hS => ?_)
                    replace hR := bnd_step hR es31
                    have hF := frm_sB hF es31 (by unfold M_M_load; omega)
                    have hf265 : s41.1 148 1 = nI tp := fc_B hf261 es31 (by omega)
                    have hf266 : s41.1 148 2 = nI rs := fc_B hf262 es31 (by omega)
                    have hf267 : s41.1 148 3 = nI ks := fc_B hf263 es31 (by omega)
                    have hf268 : s41.1 148 0 = nI 0 := fc_B hf264 es31 (by omega)
                    have hg167 : SETS ks (s41.1 170) := by rw [(ar_sB es31 (by omega))]; exact hg165
                    have hg168 : HIDS ks (s41.1 171) := by rw [(ar_sB es31 (by omega))]; exact hg166
                    refine mi_iinc (k := 0) (x := i29) (d := 1) (y := i29 + 1) (lv' := [(4, .int (nI (i29 + 1))), (3, .int (nI 1152)), (0, .ref h0), (1, .int (nI 1)), (2, .int sc)]) hx hb dM_load_162 hl rfl (by decide) rfl (by decide) rfl (fun ls hl => ?_)
                    refine lv_goto (tgt := 132) hx hb dM_load_165 (by decide) ?_
                    exact ih29 (i29 + 1) s41 pl ls H locs (by omega) hF hf265 hf266 hf267 hf268 hg167 hg168 hR (lv_sub hl [0, 1, 2, 3, 4] rfl) hO hP hD hS
                exact lp29 1184 0 q78.2 pl ls _ _ (by omega) hF hf233 hf234 hf235 hf236 hg155 hg156 hR (lv_sub hl [0, 1, 2, 3, 4] rfl) hO hP hD hS
              · replace hR := hR.trans (if_pos h69)
                refine lv_aload_n hx hb dM_load_107 rfl (lv_at hl 0 rfl) ?_
                refine lv_iconst (v := nI 3) hx hb dM_load_108 (by decide) ?_
                refine mp_i (cx := []) (wr := []) hP hD hS hA [] [] rfl rfl rfl (by decide) (va_runV (As := [.int (nI 3)]) (rest := []) F (N_M_fail l g _ T q76.2 pl hO hU h0 (nI 3) tp rs ks k_h0 hf229 hf230 hf231) (cwV 1 hts (wg_app (wg_c kw_1577 (wg_c kw_1579 (wg_c ks_50 (wg_c kw_9 wg_n)))) kw_1580) rfl rfl rfl (by decide +kernel) ⟨by decide, by decide⟩) (pn_W "LatticeKeysModel" (en_ok g) (ci := 8) (kn := 148) (fl := [(0, 0), (0, 0), (0, 0), (0, 0), (3, 149), (3, 150), (3, 151), (3, 152), (3, 161), (3, 170), (3, 171), (3, 172), (3, 184), (3, 225)]) hK hO k_h0 rfl hP hD hS hA hE [] rfl rfl rfl) rfl rfl hl.1 rfl (lv_room (Nat.le_of_ble_eq_true rfl)) dM_load_109 ⟨by omega, by omega⟩) (fun r122 u82 H locs hu82 hP hD hS => ?_)
                obtain ⟨q82, pl⟩ := u82
                obtain ⟨⟨eq82, rfl, hFc82, ⟨x172, hx_172, hb_172⟩, ⟨x173, hx_173, hb_173⟩, ⟨x174, hx_174, hb_174⟩, -⟩, hO⟩ := hu82
                have hO : okn g T q82.2 pl := hO
                have hP : va_P g.1 vcl ([] ++ pl) _ := hP
                have hD : va_D _ ([] ++ pl) := hD
                have hFc82 : frm (M_M_fail) q76.2 q82.2 := hFc82
                have hb_172 : x172 = tp := hb_172
                have hb_173 : x173 = rs := hb_173
                have hb_174 : x174 = ks := hb_174
                replace hR := bnd_step hR eq82
                have hF := frm_tr hF hFc82 (fun k hk => by unfold M_M_fail at hk; unfold M_M_load; omega)
                have hg169 : SETS ks (q82.2.1 170) := by rw [hFc82 170 (by unfold M_M_fail; omega)]; exact hg151
                have hg170 : HIDS ks (q82.2.1 171) := by rw [hFc82 171 (by unfold M_M_fail; omega)]; exact hg152
                refine W.widen (k := 0) (n := 0) (by omega) (by omega) ?_
                exact mp_iret hx hb hr hlk hP hD hS ((q82.1, q82.2), pl) ⟨⟨hR.symm, rfl, hF, ⟨x172, hx_172, by omega⟩, ⟨x173, hx_173, by omega⟩, ⟨x174, hx_174, by omega⟩, ⟨ks, (hx_174).trans (congrArg nI (show x174 = ks by omega)), by omega, hg169, hg170⟩, trivial⟩, hO⟩ [] rfl rfl rfl (by omega) (by omega) dM_load_112
          · replace hR := hR.trans (if_neg h66)
            refine lv_aload_n hx hb dM_load_44 rfl (lv_at hl 0 rfl) ?_
            refine lv_iconst (v := nI 1) hx hb dM_load_45 (by decide) ?_
            refine mp_i (cx := []) (wr := []) hP hD hS hA [] [] rfl rfl rfl (by decide) (va_runV (As := [.int (nI 1)]) (rest := []) F (N_M_fail l g _ T q75.2 pl hO hU h0 (nI 1) tp rs ks k_h0 hf225 hf226 hf227) (cwV 1 hts (wg_app (wg_c kw_1577 (wg_c kw_1579 (wg_c ks_50 (wg_c kw_9 wg_n)))) kw_1580) rfl rfl rfl (by decide +kernel) ⟨by decide, by decide⟩) (pn_W "LatticeKeysModel" (en_ok g) (ci := 8) (kn := 148) (fl := [(0, 0), (0, 0), (0, 0), (0, 0), (3, 149), (3, 150), (3, 151), (3, 152), (3, 161), (3, 170), (3, 171), (3, 172), (3, 184), (3, 225)]) hK hO k_h0 rfl hP hD hS hA hE [] rfl rfl rfl) rfl rfl hl.1 rfl (lv_room (Nat.le_of_ble_eq_true rfl)) dM_load_46 ⟨by omega, by omega⟩) (fun r123 u83 H locs hu83 hP hD hS => ?_)
            obtain ⟨q83, pl⟩ := u83
            obtain ⟨⟨eq83, rfl, hFc83, ⟨x176, hx_176, hb_176⟩, ⟨x177, hx_177, hb_177⟩, ⟨x178, hx_178, hb_178⟩, -⟩, hO⟩ := hu83
            have hO : okn g T q83.2 pl := hO
            have hP : va_P g.1 vcl ([] ++ pl) _ := hP
            have hD : va_D _ ([] ++ pl) := hD
            have hFc83 : frm (M_M_fail) q75.2 q83.2 := hFc83
            have hb_176 : x176 = tp := hb_176
            have hb_177 : x177 = rs := hb_177
            have hb_178 : x178 = ks := hb_178
            replace hR := bnd_step hR eq83
            have hF := frm_tr hF hFc83 (fun k hk => by unfold M_M_fail at hk; unfold M_M_load; omega)
            have hg171 : SETS ks (q83.2.1 170) := by rw [hFc83 170 (by unfold M_M_fail; omega)]; exact hg149
            have hg172 : HIDS ks (q83.2.1 171) := by rw [hFc83 171 (by unfold M_M_fail; omega)]; exact hg150
            refine W.widen (k := 0) (n := 0) (by omega) (by omega) ?_
            exact mp_iret hx hb hr hlk hP hD hS ((q83.1, q83.2), pl) ⟨⟨hR.symm, rfl, hF, ⟨x176, hx_176, by omega⟩, ⟨x177, hx_177, by omega⟩, ⟨x178, hx_178, by omega⟩, ⟨ks, (hx_178).trans (congrArg nI (show x178 = ks by omega)), by omega, hg171, hg172⟩, trivial⟩, hO⟩ [] rfl rfl rfl (by omega) (by omega) dM_load_49
        replace hR := hR.trans (if_neg hs28)
        have hs29 : z58 = 2 := by omega
        subst hs29
        refine lv_aload_n hx hb dM_load_22 rfl (lv_at hl 0 rfl) ?_
        refine nw_get (C := "LatticeKeysModel") (TT := T_M) (N := 14) hx hb hts (wg_ft i_M) hown hK hO k_h0 (kn := 148) (ci := 8) (fl := [(0, 0), (0, 0), (0, 0), (0, 0), (3, 149), (3, 150), (3, 151), (3, 152), (3, 161), (3, 170), (3, 171), (3, 172), (3, 184), (3, 225)]) rfl hP rfl 1 (by decide) (hts _ (wg_t kw_1527)) (fun _ h9 => h9) (cd := (0, 0)) rfl dM_load_23 (fun v83 hv85 => ?_)
        obtain rfl := (show v83 = .int (s21.1 148 1) from hv85)
        obtain ⟨z81, ez81, hz139, hz140⟩ := cl_of (b := 2147483648) hf21 (by omega) (by decide)
        replace hR := bnd_step hR ez81
        refine mi_as hz139 ?_
        refine lv_iload_n hx hb dM_load_26 rfl (lv_at hl 2 rfl) ?_
        refine lv_if_eq (tgt := 37) hx hb dM_load_27 (by decide) (fun h9 => absurd h9 h22) (fun h9 => ?_)
        refine lv_iload_n hx hb dM_load_30 rfl (lv_at hl 1 rfl) ?_
        refine mp_i (cx := []) (wr := []) hP hD hS hA [] [] rfl rfl rfl (by decide) (va_runS (As := [.int (nI 2)]) (rest := [.int (nI z81)]) F (N_M_hiddenSize_2 l g _ T s21 pl hO hU ) (va_cwS 1 hts (wg_app (wg_c kw_1747 (wg_c kw_1748 (wg_c kw_9 wg_n))) kw_1749) rfl rfl rfl (by decide +kernel) ⟨by decide, by decide⟩) (pp_S (en_ok g) hP hD hS hA hE [] rfl rfl) rfl rfl hl.1 rfl (lv_room (Nat.le_of_ble_eq_true rfl)) dM_load_31 ⟨by omega, by omega⟩) (fun r124 u84 H locs hu84 hP hD hS => ?_)
        obtain ⟨q84, pl⟩ := u84
        obtain ⟨⟨eq84, rfl, hFc84, ⟨x180, hx_180, hb_180⟩, hxp84, -⟩, hO⟩ := hu84
        have hO : okn g T q84.2 pl := hO
        have hP : va_P g.1 vcl ([] ++ pl) _ := hP
        have hD : va_D _ ([] ++ pl) := hD
        have hFc84 : frm (M_M_hiddenSize_2) s21 q84.2 := hFc84
        have hb_180 : x180 < 3169 := hb_180
        replace hR := bnd_step hR eq84
        have hF := frm_tr hF hFc84 (fun k hk => by unfold M_M_hiddenSize_2 at hk; unfold M_M_load; omega)
        have hf269 : q84.2.1 148 1 = nI tp := fc_F hf21 hFc84 (by unfold M_M_hiddenSize_2; omega)
        have hf270 : q84.2.1 148 2 = nI rs := fc_F hf22 hFc84 (by unfold M_M_hiddenSize_2; omega)
        have hf271 : q84.2.1 148 3 = nI ks := fc_F hf23 hFc84 (by unfold M_M_hiddenSize_2; omega)
        have hf272 : q84.2.1 148 0 = nI 0 := fc_F hf24 hFc84 (by unfold M_M_hiddenSize_2; omega)
        have hg173 : SETS ks (q84.2.1 170) := by rw [hFc84 170 (by unfold M_M_hiddenSize_2; omega)]; exact hg21
        have hg174 : HIDS ks (q84.2.1 171) := by rw [hFc84 171 (by unfold M_M_hiddenSize_2; omega)]; exact hg22
        obtain ⟨z82, ez82, hz141, hz142⟩ := cl_of (b := 2147483648) hx_180 (by omega) (by decide)
        replace hR := bnd_step hR ez82
        refine mi_as hz141 ?_
        have hsz47 : z82 = 3168 := (nI_eq (by omega) (by omega)).mp (hz141.symm.trans hxp84)
        subst hsz47
        refine W.widen (k := 0) (n := 0) (by omega) (by omega) ?_
        refine lv_goto (tgt := 41) hx hb dM_load_34 (by decide) ?_
        refine mi_eq (tgt := 50) hx hb dM_load_41 (by decide) (by omega) (by omega) (fun h74 => ?_) (fun h74 => ?_)
        · replace hR := hR.trans (if_pos h74)
          refine lv_iload_n hx hb dM_load_50 rfl (lv_at hl 1 rfl) ?_
          refine lv_iconst (v := nI 3) hx hb dM_load_51 (by decide) ?_
          refine mi_ge (tgt := 98) hx hb dM_load_52 (by decide) (by omega) (by omega) (fun h75 => absurd h75 (by omega)) (fun h75 => ?_)
          refine lv_iload_n hx hb dM_load_55 rfl (lv_at hl 2 rfl) ?_
          refine lv_if_eq (tgt := 77) hx hb dM_load_56 (by decide) (fun h9 => absurd h9 h22) (fun h9 => ?_)
          refine lv_aload_n hx hb dM_load_59 rfl (lv_at hl 0 rfl) ?_
          refine nw_get (C := "LatticeKeysModel") (TT := T_M) (N := 14) hx hb hts (wg_ft i_M) hown hK hO k_h0 (kn := 148) (ci := 8) (fl := [(0, 0), (0, 0), (0, 0), (0, 0), (3, 149), (3, 150), (3, 151), (3, 152), (3, 161), (3, 170), (3, 171), (3, 172), (3, 184), (3, 225)]) rfl hP rfl 12 (by decide) (hts _ (wg_t kw_1538)) (fun _ h9 => h9) (cd := (3, 184)) rfl dM_load_60 (fun v84 hv86 => ?_)
          obtain ⟨r125, rfl, kr61⟩ := (show ∃ r : Nat, v84 = .ref r ∧ T r = some 184 from hv86)
          refine lv_iload_n hx hb dM_load_63 rfl (lv_at hl 1 rfl) ?_
          refine lv_aload_n hx hb dM_load_64 rfl (lv_at hl 0 rfl) ?_
          refine nw_get (C := "LatticeKeysModel") (TT := T_M) (N := 14) hx hb hts (wg_ft i_M) hown hK hO k_h0 (kn := 148) (ci := 8) (fl := [(0, 0), (0, 0), (0, 0), (0, 0), (3, 149), (3, 150), (3, 151), (3, 152), (3, 161), (3, 170), (3, 171), (3, 172), (3, 184), (3, 225)]) rfl hP rfl 4 (by decide) (hts _ (wg_t kw_1530)) (fun _ h9 => h9) (cd := (3, 149)) rfl dM_load_65 (fun v85 hv87 => ?_)
          obtain ⟨r126, rfl, kr62⟩ := (show ∃ r : Nat, v85 = .ref r ∧ T r = some 149 from hv87)
          refine mp_i (cx := []) (wr := []) hP hD hS hA [] [] rfl rfl rfl (by decide) (va_runV (As := [.int (nI 2), .ref r126]) (rest := []) F (N_ME_goodHidden_2 l g _ T q84.2 pl hO hU r125 r126 149 kr61 kr62 rfl) (cwV 2 hts (wg_app (wg_c kw_1769 (wg_c kw_1770 (wg_c kw_1771 (wg_c kw_11 wg_n)))) kw_1772) rfl rfl rfl (by decide +kernel) ⟨by decide, by decide⟩) (pn_W "LatticeKeysModel$Secrets" (en_ok g) (ci := 11) (kn := 184) (fl := [(3, 172), (3, 178), (3, 185), (3, 202), (3, 207), (3, 212), (3, 217), (3, 218), (3, 219), (3, 220), (3, 221), (3, 222), (3, 223), (3, 224)]) hK hO kr61 rfl hP hD hS hA hE [] rfl rfl rfl) rfl rfl hl.1 rfl (lv_room (Nat.le_of_ble_eq_true rfl)) dM_load_68 ⟨by omega, by omega⟩) (fun r127 u85 H locs hu85 hP hD hS => ?_)
          obtain ⟨q85, pl⟩ := u85
          obtain ⟨⟨eq85, rfl, hFc85, -⟩, hO⟩ := hu85
          have hO : okn g T q85.2 pl := hO
          have hP : va_P g.1 vcl ([] ++ pl) _ := hP
          have hD : va_D _ ([] ++ pl) := hD
          have hFc85 : frm (M_ME_goodHidden_2) q84.2 q85.2 := hFc85
          replace hR := bnd_step hR eq85
          have hF := frm_tr hF hFc85 (fun k hk => by unfold M_ME_goodHidden_2 at hk; unfold M_M_load; omega)
          have hf273 : q85.2.1 148 1 = nI tp := fc_F hf269 hFc85 (by unfold M_ME_goodHidden_2; omega)
          have hf274 : q85.2.1 148 2 = nI rs := fc_F hf270 hFc85 (by unfold M_ME_goodHidden_2; omega)
          have hf275 : q85.2.1 148 3 = nI ks := fc_F hf271 hFc85 (by unfold M_ME_goodHidden_2; omega)
          have hf276 : q85.2.1 148 0 = nI 0 := fc_F hf272 hFc85 (by unfold M_ME_goodHidden_2; omega)
          have hg175 : SETS ks (q85.2.1 170) := by rw [hFc85 170 (by unfold M_ME_goodHidden_2; omega)]; exact hg173
          have hg176 : HIDS ks (q85.2.1 171) := by rw [hFc85 171 (by unfold M_ME_goodHidden_2; omega)]; exact hg174
          refine W.widen (k := 0) (n := 0) (by omega) (by omega) ?_
          refine lv_if_eq (tgt := 92) hx hb dM_load_71 (by decide) (fun h76 => ?_) (fun h76 => ?_)
          · replace hR := hR.trans (if_pos h76)
            refine lv_aload_n hx hb dM_load_92 rfl (lv_at hl 0 rfl) ?_
            refine lv_iconst (v := nI 2) hx hb dM_load_93 (by decide) ?_
            refine mp_i (cx := []) (wr := []) hP hD hS hA [] [] rfl rfl rfl (by decide) (va_runV (As := [.int (nI 2)]) (rest := []) F (N_M_fail l g _ T q85.2 pl hO hU h0 (nI 2) tp rs ks k_h0 hf273 hf274 hf275) (cwV 1 hts (wg_app (wg_c kw_1577 (wg_c kw_1579 (wg_c ks_50 (wg_c kw_9 wg_n)))) kw_1580) rfl rfl rfl (by decide +kernel) ⟨by decide, by decide⟩) (pn_W "LatticeKeysModel" (en_ok g) (ci := 8) (kn := 148) (fl := [(0, 0), (0, 0), (0, 0), (0, 0), (3, 149), (3, 150), (3, 151), (3, 152), (3, 161), (3, 170), (3, 171), (3, 172), (3, 184), (3, 225)]) hK hO k_h0 rfl hP hD hS hA hE [] rfl rfl rfl) rfl rfl hl.1 rfl (lv_room (Nat.le_of_ble_eq_true rfl)) dM_load_94 ⟨by omega, by omega⟩) (fun r128 u86 H locs hu86 hP hD hS => ?_)
            obtain ⟨q86, pl⟩ := u86
            obtain ⟨⟨eq86, rfl, hFc86, ⟨x182, hx_182, hb_182⟩, ⟨x183, hx_183, hb_183⟩, ⟨x184, hx_184, hb_184⟩, -⟩, hO⟩ := hu86
            have hO : okn g T q86.2 pl := hO
            have hP : va_P g.1 vcl ([] ++ pl) _ := hP
            have hD : va_D _ ([] ++ pl) := hD
            have hFc86 : frm (M_M_fail) q85.2 q86.2 := hFc86
            have hb_182 : x182 = tp := hb_182
            have hb_183 : x183 = rs := hb_183
            have hb_184 : x184 = ks := hb_184
            replace hR := bnd_step hR eq86
            have hF := frm_tr hF hFc86 (fun k hk => by unfold M_M_fail at hk; unfold M_M_load; omega)
            have hg177 : SETS ks (q86.2.1 170) := by rw [hFc86 170 (by unfold M_M_fail; omega)]; exact hg175
            have hg178 : HIDS ks (q86.2.1 171) := by rw [hFc86 171 (by unfold M_M_fail; omega)]; exact hg176
            refine W.widen (k := 0) (n := 0) (by omega) (by omega) ?_
            exact mp_iret hx hb hr hlk hP hD hS ((q86.1, q86.2), pl) ⟨⟨hR.symm, rfl, hF, ⟨x182, hx_182, by omega⟩, ⟨x183, hx_183, by omega⟩, ⟨x184, hx_184, by omega⟩, ⟨ks, (hx_184).trans (congrArg nI (show x184 = ks by omega)), by omega, hg177, hg178⟩, trivial⟩, hO⟩ [] rfl rfl rfl (by omega) (by omega) dM_load_97
          · replace hR := hR.trans (if_neg h76)
            refine lv_goto (tgt := 98) hx hb dM_load_74 (by decide) ?_
            refine lv_aload_n hx hb dM_load_98 rfl (lv_at hl 0 rfl) ?_
            refine nw_get (C := "LatticeKeysModel") (TT := T_M) (N := 14) hx hb hts (wg_ft i_M) hown hK hO k_h0 (kn := 148) (ci := 8) (fl := [(0, 0), (0, 0), (0, 0), (0, 0), (3, 149), (3, 150), (3, 151), (3, 152), (3, 161), (3, 170), (3, 171), (3, 172), (3, 184), (3, 225)]) rfl hP rfl 3 (by decide) (hts _ (wg_t kw_1529)) (fun _ h9 => h9) (cd := (0, 0)) rfl dM_load_99 (fun v86 hv88 => ?_)
            obtain rfl := (show v86 = .int (q85.2.1 148 3) from hv88)
            obtain ⟨z83, ez83, hz143, hz144⟩ := cl_of (b := 2147483648) hf275 (by omega) (by decide)
            replace hR := bnd_step hR ez83
            refine mi_as hz143 ?_
            refine lv_bipush (v := nI 8) hx hb dM_load_102 (by decide) ?_
            refine mi_ne (tgt := 113) hx hb dM_load_104 (by decide) (by omega) (by omega) (fun h77 => ?_) (fun h77 => ?_)
            · replace hR := hR.trans (if_neg h77)
              refine lv_iload_n hx hb dM_load_113 rfl (lv_at hl 2 rfl) ?_
              refine lv_if_eq (tgt := 127) hx hb dM_load_114 (by decide) (fun h9 => absurd h9 h22) (fun h9 => ?_)
              refine lv_iload_n hx hb dM_load_117 rfl (lv_at hl 1 rfl) ?_
              refine mp_i (cx := []) (wr := []) hP hD hS hA [] [] rfl rfl rfl (by decide) (va_runS (As := [.int (nI 2)]) (rest := []) F (N_M_openSize_2 l g _ T q85.2 pl hO hU ) (va_cwS 1 hts (wg_app (wg_c kw_1764 (wg_c kw_1765 (wg_c kw_9 wg_n))) kw_1766) rfl rfl rfl (by decide +kernel) ⟨by decide, by decide⟩) (pp_S (en_ok g) hP hD hS hA hE [] rfl rfl) rfl rfl hl.1 rfl (lv_room (Nat.le_of_ble_eq_true rfl)) dM_load_118 ⟨by omega, by omega⟩) (fun r129 u87 H locs hu87 hP hD hS => ?_)
              obtain ⟨q87, pl⟩ := u87
              obtain ⟨⟨eq87, rfl, hFc87, ⟨x186, hx_186, hb_186⟩, hxp87, -⟩, hO⟩ := hu87
              have hO : okn g T q87.2 pl := hO
              have hP : va_P g.1 vcl ([] ++ pl) _ := hP
              have hD : va_D _ ([] ++ pl) := hD
              have hFc87 : frm (M_M_openSize_2) q85.2 q87.2 := hFc87
              have hb_186 : x186 < 1569 := hb_186
              replace hR := bnd_step hR eq87
              have hF := frm_tr hF hFc87 (fun k hk => by unfold M_M_openSize_2 at hk; unfold M_M_load; omega)
              have hf277 : q87.2.1 148 1 = nI tp := fc_F hf273 hFc87 (by unfold M_M_openSize_2; omega)
              have hf278 : q87.2.1 148 2 = nI rs := fc_F hf274 hFc87 (by unfold M_M_openSize_2; omega)
              have hf279 : q87.2.1 148 3 = nI ks := fc_F hf275 hFc87 (by unfold M_M_openSize_2; omega)
              have hf280 : q87.2.1 148 0 = nI 0 := fc_F hf276 hFc87 (by unfold M_M_openSize_2; omega)
              have hg179 : SETS ks (q87.2.1 170) := by rw [hFc87 170 (by unfold M_M_openSize_2; omega)]; exact hg175
              have hg180 : HIDS ks (q87.2.1 171) := by rw [hFc87 171 (by unfold M_M_openSize_2; omega)]; exact hg176
              obtain ⟨z84, ez84, hz145, hz146⟩ := cl_of (b := 2147483648) hx_186 (by omega) (by decide)
              replace hR := bnd_step hR ez84
              refine mi_as hz145 ?_
              have hsz48 : z84 = 1568 := (nI_eq (by omega) (by omega)).mp (hz145.symm.trans hxp87)
              subst hsz48
              refine W.widen (k := 0) (n := 0) (by omega) (by omega) ?_
              refine lv_bipush (v := nI 32) hx hb dM_load_121 (by decide) ?_
              refine mi_isub hx hb dM_load_123 (by omega) ?_
              refine mi_as (show nI (1568 - 32) = nI 1536 from rfl) ?_
              refine lv_goto (tgt := 128) hx hb dM_load_124 (by decide) ?_
              refine lv_istore_n (lv' := [(3, .int (nI 1536)), (0, .ref h0), (1, .int (nI 2)), (2, .int sc)]) hx hb dM_load_128 rfl hl (by decide) rfl (fun ls hl => ?_)
              refine lv_iconst (v := nI 0) hx hb dM_load_129 (by decide) ?_
              refine lv_istore (lv' := [(4, .int (nI 0)), (3, .int (nI 1536)), (0, .ref h0), (1, .int (nI 2)), (2, .int sc)]) hx hb dM_load_130 hl (by decide) rfl (fun ls hl => ?_)
              have lp31 : ∀ (n31 : Nat) (i31 : Nat) (s42 : Sto) (pl : va_W) (ls : Array Slot) (H : Heap) (locs : List Loc), n31 + i31 = 1568 → frm (M_M_load) s s42 → s42.1 148 1 = nI tp → s42.1 148 2 = nI rs → s42.1 148 3 = nI ks → s42.1 148 0 = nI 0 → (SETS ks (s42.1 170)) → (HIDS ks (s42.1 171)) → F_M_load v sc s = F_M_load_L10 n31 i31 s42 → lv_has ls 5 [(4, .int (nI i31)), (3, .int (nI 1536)), (0, .ref h0), (1, .int (nI 2)), (2, .int sc)] → okn g T s42 pl → va_P g.1 vcl ([] ++ pl) H → va_D A ([] ++ pl) → va_S A s0.heap H locs → W p l e ({ frames := 6, cells := 0, slots := 0, locals := 139 } : Room) s0 m args below meth c H locs 0 0 (MQ below (va_Qi (fun (r : Int32) (u : (Int32 × Sto) × va_W) => (u.1 = F_M_load v sc s ∧ r = u.1.1 ∧ frm (M_M_load) s u.1.2 ∧ (∃ x : Nat, u.1.2.1 148 1 = nI x ∧ x ≤ 16384) ∧ (∃ x : Nat, u.1.2.1 148 2 = nI x ∧ x ≤ 8192) ∧ (∃ x : Nat, u.1.2.1 148 3 = nI x ∧ x ≤ 8) ∧ (∃ x : Nat, u.1.2.1 148 3 = nI x ∧ x ≤ 8 ∧ SETS x (u.1.2.1 170) ∧ HIDS x (u.1.2.1 171)) ∧ True) ∧ okn g T u.1.2 u.2) (po g.1 vcl A (fun (u : (Int32 × Sto) × va_W) => [] ++ u.2)) A) args s0 0 0 A) (F0 m 132 ls []) := by
                intro n31
                induction n31 with
                | zero =>
                  intro i31 s42 pl ls H locs hm31 hF hf281 hf282 hf283 hf284 hg181 hg182 hR hl hO hP hD hS
                  refine lv_iload hx hb dM_load_132 (lv_at hl 0 rfl) ?_
                  refine lv_iload_n hx hb dM_load_134 rfl (lv_at hl 3 rfl) ?_
                  refine mp_i (cx := []) (wr := []) hP hD hS hA [] [] rfl rfl rfl (by decide) (va_runS (As := [.int (nI 2)]) (rest := [.int (nI i31)]) F (N_M_openSize_2 l g _ T s42 pl hO hU ) (va_cwS 1 hts (wg_app (wg_c kw_1764 (wg_c kw_1765 (wg_c kw_9 wg_n))) kw_1766) rfl rfl rfl (by decide +kernel) ⟨by decide, by decide⟩) (pp_S (en_ok g) hP hD hS hA hE [] rfl rfl) rfl rfl hl.1 rfl (lv_room (Nat.le_of_ble_eq_true rfl)) dM_load_135 ⟨by omega, by omega⟩) (fun r130 u88 H locs hu88 hP hD hS => ?_)
                  obtain ⟨q88, pl⟩ := u88
                  obtain ⟨⟨eq88, rfl, hFc88, ⟨x187, hx_187, hb_187⟩, hxp88, -⟩, hO⟩ := hu88
                  have hO : okn g T q88.2 pl := hO
                  have hP : va_P g.1 vcl ([] ++ pl) _ := hP
                  have hD : va_D _ ([] ++ pl) := hD
                  have hFc88 : frm (M_M_openSize_2) s42 q88.2 := hFc88
                  have hb_187 : x187 < 1569 := hb_187
                  replace hR := bnd_step hR eq88
                  have hF := frm_tr hF hFc88 (fun k hk => by unfold M_M_openSize_2 at hk; unfold M_M_load; omega)
                  have hf285 : q88.2.1 148 1 = nI tp := fc_F hf281 hFc88 (by unfold M_M_openSize_2; omega)
                  have hf286 : q88.2.1 148 2 = nI rs := fc_F hf282 hFc88 (by unfold M_M_openSize_2; omega)
                  have hf287 : q88.2.1 148 3 = nI ks := fc_F hf283 hFc88 (by unfold M_M_openSize_2; omega)
                  have hf288 : q88.2.1 148 0 = nI 0 := fc_F hf284 hFc88 (by unfold M_M_openSize_2; omega)
                  have hg183 : SETS ks (q88.2.1 170) := by rw [hFc88 170 (by unfold M_M_openSize_2; omega)]; exact hg181
                  have hg184 : HIDS ks (q88.2.1 171) := by rw [hFc88 171 (by unfold M_M_openSize_2; omega)]; exact hg182
                  obtain ⟨z85, ez85, hz147, hz148⟩ := cl_of (b := 2147483648) hx_187 (by omega) (by decide)
                  replace hR := bnd_step hR ez85
                  refine mi_as hz147 ?_
                  have hsz49 : z85 = 1568 := (nI_eq (by omega) (by omega)).mp (hz147.symm.trans hxp88)
                  subst hsz49
                  refine W.widen (k := 0) (n := 0) (by omega) (by omega) ?_
                  refine mi_ge (tgt := 168) hx hb dM_load_138 (by decide) (by omega) (by omega) (fun h78 => ?_) (fun h78 => absurd h78 (by omega))
                  refine lv_iconst (v := nI 0) hx hb dM_load_168 (by decide) ?_
                  refine lv_istore (lv' := [(4, .int (nI 0)), (3, .int (nI 1536)), (0, .ref h0), (1, .int (nI 2)), (2, .int sc)]) hx hb dM_load_169 hl (by decide) rfl (fun ls hl => ?_)
                  have lp32 : ∀ (n32 : Nat) (i32 : Nat) (s43 : Sto) (pl : va_W) (ls : Array Slot) (H : Heap) (locs : List Loc), n32 + i32 = 3168 → frm (M_M_load) s s43 → s43.1 148 1 = nI tp → s43.1 148 2 = nI rs → s43.1 148 3 = nI ks → s43.1 148 0 = nI 0 → (SETS ks (s43.1 170)) → (HIDS ks (s43.1 171)) → F_M_load v sc s = F_M_load_L11 n32 i32 s43 → lv_has ls 5 [(4, .int (nI i32)), (0, .ref h0), (1, .int (nI 2)), (2, .int sc)] → okn g T s43 pl → va_P g.1 vcl ([] ++ pl) H → va_D A ([] ++ pl) → va_S A s0.heap H locs → W p l e ({ frames := 6, cells := 0, slots := 0, locals := 139 } : Room) s0 m args below meth c H locs 0 0 (MQ below (va_Qi (fun (r : Int32) (u : (Int32 × Sto) × va_W) => (u.1 = F_M_load v sc s ∧ r = u.1.1 ∧ frm (M_M_load) s u.1.2 ∧ (∃ x : Nat, u.1.2.1 148 1 = nI x ∧ x ≤ 16384) ∧ (∃ x : Nat, u.1.2.1 148 2 = nI x ∧ x ≤ 8192) ∧ (∃ x : Nat, u.1.2.1 148 3 = nI x ∧ x ≤ 8) ∧ (∃ x : Nat, u.1.2.1 148 3 = nI x ∧ x ≤ 8 ∧ SETS x (u.1.2.1 170) ∧ HIDS x (u.1.2.1 171)) ∧ True) ∧ okn g T u.1.2 u.2) (po g.1 vcl A (fun (u : (Int32 × Sto) × va_W) => [] ++ u.2)) A) args s0 0 0 A) (F0 m 171 ls []) := by
                    intro n32
                    induction n32 with
                    | zero =>
                      intro i32 s43 pl ls H locs hm32 hF hf289 hf290 hf291 hf292 hg185 hg186 hR hl hO hP hD hS
                      refine lv_iload_n hx hb dM_load_171 rfl (lv_at hl 3 rfl) ?_
                      refine lv_if_eq (tgt := 209) hx hb dM_load_172 (by decide) (fun h9 => absurd h9 h22) (fun h9 => ?_)
                      refine lv_iload hx hb dM_load_175 (lv_at hl 0 rfl) ?_
                      refine lv_aload_n hx hb dM_load_177 rfl (lv_at hl 1 rfl) ?_
                      refine nw_get (C := "LatticeKeysModel") (TT := T_M) (N := 14) hx hb hts (wg_ft i_M) hown hK hO k_h0 (kn := 148) (ci := 8) (fl := [(0, 0), (0, 0), (0, 0), (0, 0), (3, 149), (3, 150), (3, 151), (3, 152), (3, 161), (3, 170), (3, 171), (3, 172), (3, 184), (3, 225)]) rfl hP rfl 1 (by decide) (hts _ (wg_t kw_1527)) (fun _ h9 => h9) (cd := (0, 0)) rfl dM_load_178 (fun v87 hv89 => ?_)
                      obtain rfl := (show v87 = .int (s43.1 148 1) from hv89)
                      obtain ⟨z86, ez86, hz149, hz150⟩ := cl_of (b := 2147483648) hf289 (by omega) (by decide)
                      replace hR := bnd_step hR ez86
                      refine mi_as hz149 ?_
                      refine mi_ge (tgt := 209) hx hb dM_load_181 (by decide) (by omega) (by omega) (fun h79 => ?_) (fun h79 => absurd h79 (by omega))
                      refine lv_aload_n hx hb dM_load_209 rfl (lv_at hl 1 rfl) ?_
                      refine lv_iload_n hx hb dM_load_210 rfl (lv_at hl 2 rfl) ?_
                      refine lv_iload_n hx hb dM_load_211 rfl (lv_at hl 3 rfl) ?_
                      refine lv_if_eq (tgt := 222) hx hb dM_load_212 (by decide) (fun h9 => absurd h9 h22) (fun h9 => ?_)
                      refine lv_aload_n hx hb dM_load_215 rfl (lv_at hl 1 rfl) ?_
                      refine nw_get (C := "LatticeKeysModel") (TT := T_M) (N := 14) hx hb hts (wg_ft i_M) hown hK hO k_h0 (kn := 148) (ci := 8) (fl := [(0, 0), (0, 0), (0, 0), (0, 0), (3, 149), (3, 150), (3, 151), (3, 152), (3, 161), (3, 170), (3, 171), (3, 172), (3, 184), (3, 225)]) rfl hP rfl 1 (by decide) (hts _ (wg_t kw_1527)) (fun _ h9 => h9) (cd := (0, 0)) rfl dM_load_216 (fun v88 hv90 => ?_)
                      obtain rfl := (show v88 = .int (s43.1 148 1) from hv90)
                      obtain ⟨z87, ez87, hz151, hz152⟩ := cl_of (b := 2147483648) hf289 (by omega) (by decide)
                      replace hR := bnd_step hR ez87
                      refine mi_as hz151 ?_
                      refine lv_goto (tgt := 223) hx hb dM_load_219 (by decide) ?_
                      refine mp_i (cx := []) (wr := []) hP hD hS hA [] [] rfl rfl rfl (by decide) (va_runV (As := [.int (nI 2), .int (nI z87)]) (rest := []) F (N_M_madeP l g _ T s43 pl hO hU h0 2 z87 tp rs ks k_h0 hf289 hf290 hf291 (by omega) (by omega) (by omega) hg185 hg186) (cwV 2 hts (wg_app (wg_c kw_1756 (wg_c kw_1758 (wg_c ks_64 (wg_c kw_9 wg_n)))) kw_1759) rfl rfl rfl (by decide +kernel) ⟨by decide, by decide⟩) (pn_W "LatticeKeysModel" (en_ok g) (ci := 8) (kn := 148) (fl := [(0, 0), (0, 0), (0, 0), (0, 0), (3, 149), (3, 150), (3, 151), (3, 152), (3, 161), (3, 170), (3, 171), (3, 172), (3, 184), (3, 225)]) hK hO k_h0 rfl hP hD hS hA hE [] rfl rfl rfl) rfl rfl hl.1 rfl (lv_room (Nat.le_of_ble_eq_true rfl)) dM_load_223 ⟨by omega, by omega⟩) (fun r131 u89 H locs hu89 hP hD hS => ?_)
                      obtain ⟨q89, pl⟩ := u89
                      obtain ⟨⟨eq89, rfl, hFc89, ⟨x188, hx_188, hb_188⟩, ⟨x189, hx_189, hb_189⟩, ⟨x190, hx_190, hb_190⟩, hxp89, -⟩, hO⟩ := hu89
                      have hO : okn g T q89.2 pl := hO
                      have hP : va_P g.1 vcl ([] ++ pl) _ := hP
                      have hD : va_D _ ([] ++ pl) := hD
                      have hFc89 : frm (M_M_madeP) s43 q89.2 := hFc89
                      have hb_188 : x188 = 0 := hb_188
                      have hb_189 : x189 = rs := hb_189
                      have hb_190 : x190 = ks + 1 := hb_190
                      replace hR := bnd_step hR eq89
                      have hF := frm_tr hF hFc89 (fun k hk => by unfold M_M_madeP at hk; unfold M_M_load; omega)
                      refine W.widen (k := 0) (n := 0) (by omega) (by omega) ?_
                      exact mp_iret hx hb hr hlk hP hD hS ((q89.1, q89.2), pl) ⟨⟨hR.symm, rfl, hF, ⟨x188, hx_188, by omega⟩, ⟨x189, hx_189, by omega⟩, ⟨x190, hx_190, by omega⟩, (by obtain ⟨x9, h9, e9, a9, b9⟩ := hxp89; subst e9; exact ⟨_, h9, by omega, a9, b9⟩), trivial⟩, hO⟩ [] rfl rfl rfl (by omega) (by omega) dM_load_226
                    | succ n32 ih32 =>
                      intro i32 s43 pl ls H locs hm32 hF hf293 hf294 hf295 hf296 hg185 hg186 hR hl hO hP hD hS
                      refine lv_iload_n hx hb dM_load_171 rfl (lv_at hl 3 rfl) ?_
                      refine lv_if_eq (tgt := 209) hx hb dM_load_172 (by decide) (fun h9 => absurd h9 h22) (fun h9 => ?_)
                      refine lv_iload hx hb dM_load_175 (lv_at hl 0 rfl) ?_
                      refine lv_aload_n hx hb dM_load_177 rfl (lv_at hl 1 rfl) ?_
                      refine nw_get (C := "LatticeKeysModel") (TT := T_M) (N := 14) hx hb hts (wg_ft i_M) hown hK hO k_h0 (kn := 148) (ci := 8) (fl := [(0, 0), (0, 0), (0, 0), (0, 0), (3, 149), (3, 150), (3, 151), (3, 152), (3, 161), (3, 170), (3, 171), (3, 172), (3, 184), (3, 225)]) rfl hP rfl 1 (by decide) (hts _ (wg_t kw_1527)) (fun _ h9 => h9) (cd := (0, 0)) rfl dM_load_178 (fun v89 hv91 => ?_)
                      obtain rfl := (show v89 = .int (s43.1 148 1) from hv91)
                      obtain ⟨z88, ez88, hz153, hz154⟩ := cl_of (b := 2147483648) hf293 (by omega) (by decide)
                      replace hR := bnd_step hR ez88
                      refine mi_as hz153 ?_
                      refine mi_ge (tgt := 209) hx hb dM_load_181 (by decide) (by omega) (by omega) (fun h80 => absurd h80 (by omega)) (fun h80 => ?_)
                      refine lv_aload_n hx hb dM_load_184 rfl (lv_at hl 1 rfl) ?_
                      refine nw_get (C := "LatticeKeysModel") (TT := T_M) (N := 14) hx hb hts (wg_ft i_M) hown hK hO k_h0 (kn := 148) (ci := 8) (fl := [(0, 0), (0, 0), (0, 0), (0, 0), (3, 149), (3, 150), (3, 151), (3, 152), (3, 161), (3, 170), (3, 171), (3, 172), (3, 184), (3, 225)]) rfl hP rfl 8 (by decide) (hts _ (wg_t kw_1534)) (fun _ h9 => h9) (cd := (3, 161)) rfl dM_load_185 (fun v90 hv92 => ?_)
                      obtain ⟨r132, rfl, kr63⟩ := (show ∃ r : Nat, v90 = .ref r ∧ T r = some 161 from hv92)
                      refine lv_aload_n hx hb dM_load_188 rfl (lv_at hl 1 rfl) ?_
                      refine nw_get (C := "LatticeKeysModel") (TT := T_M) (N := 14) hx hb hts (wg_ft i_M) hown hK hO k_h0 (kn := 148) (ci := 8) (fl := [(0, 0), (0, 0), (0, 0), (0, 0), (3, 149), (3, 150), (3, 151), (3, 152), (3, 161), (3, 170), (3, 171), (3, 172), (3, 184), (3, 225)]) rfl hP rfl 3 (by decide) (hts _ (wg_t kw_1529)) (fun _ h9 => h9) (cd := (0, 0)) rfl dM_load_189 (fun v91 hv93 => ?_)
                      obtain rfl := (show v91 = .int (s43.1 148 3) from hv93)
                      obtain ⟨z89, ez89, hz155, hz156⟩ := cl_of (b := 2147483648) hf295 (by omega) (by decide)
                      replace hR := bnd_step hR ez89
                      refine mi_as hz155 ?_
                      refine nw_aald4 hx hb hK hO kr63 (k := 161) (b := 162) rfl hP (by omega) (by omega) dM_load_192 (fun r133 kr64 => ?_)
                      have hn31 : nsp (162 + z89) = (1, 4896, []) := rows_okb 162 8 4896 (by decide) _ (by omega)
                      refine lv_iload hx hb dM_load_193 (lv_at hl 0 rfl) ?_
                      refine lv_aload_n hx hb dM_load_195 rfl (lv_at hl 1 rfl) ?_
                      refine nw_get (C := "LatticeKeysModel") (TT := T_M) (N := 14) hx hb hts (wg_ft i_M) hown hK hO k_h0 (kn := 148) (ci := 8) (fl := [(0, 0), (0, 0), (0, 0), (0, 0), (3, 149), (3, 150), (3, 151), (3, 152), (3, 161), (3, 170), (3, 171), (3, 172), (3, 184), (3, 225)]) rfl hP rfl 4 (by decide) (hts _ (wg_t kw_1530)) (fun _ h9 => h9) (cd := (3, 149)) rfl dM_load_196 (fun v92 hv94 => ?_)
                      obtain ⟨r134, rfl, kr65⟩ := (show ∃ r : Nat, v92 = .ref r ∧ T r = some 149 from hv94)
                      refine lv_iload hx hb dM_load_199 (lv_at hl 0 rfl) ?_
                      refine nw_bald hx hb hK hO kr65 (k := 149) rfl hP (by omega) (by omega) dM_load_201 ?_
                      refine nw_bast hx hb hK hO hU kr64 (k := (162 + z89)) hn31 hP hD hS (by omega) (by omega) dM_load_202 (fun s44 pl H locs es32 hO hP hD hS => ?_)
                      replace hR := bnd_step hR es32
                      have hF := frm_sB hF es32 (by unfold M_M_load; omega)
                      have hf297 : s44.1 148 1 = nI tp := fc_B hf293 es32 (by omega)
                      have hf298 : s44.1 148 2 = nI rs := fc_B hf294 es32 (by omega)
                      have hf299 : s44.1 148 3 = nI ks := fc_B hf295 es32 (by omega)
                      have hf300 : s44.1 148 0 = nI 0 := fc_B hf296 es32 (by omega)
                      have hg187 : SETS ks (s44.1 170) := by rw [(ar_sB es32 (by omega))]; exact hg185
                      have hg188 : HIDS ks (s44.1 171) := by rw [(ar_sB es32 (by omega))]; exact hg186
                      refine mi_iinc (k := 0) (x := i32) (d := 1) (y := i32 + 1) (lv' := [(4, .int (nI (i32 + 1))), (0, .ref h0), (1, .int (nI 2)), (2, .int sc)]) hx hb dM_load_203 hl rfl (by decide) rfl (by decide) rfl (fun ls hl => ?_)
                      refine lv_goto (tgt := 171) hx hb dM_load_206 (by decide) ?_
                      exact ih32 (i32 + 1) s44 pl ls H locs (by omega) hF hf297 hf298 hf299 hf300 hg187 hg188 hR (lv_sub hl [0, 1, 2, 3] rfl) hO hP hD hS
                  exact lp32 3168 0 q88.2 pl ls _ _ (by omega) hF hf285 hf286 hf287 hf288 hg183 hg184 hR (lv_sub hl [0, 2, 3, 4] rfl) hO hP hD hS
                | succ n31 ih31 =>
                  intro i31 s42 pl ls H locs hm31 hF hf301 hf302 hf303 hf304 hg181 hg182 hR hl hO hP hD hS
                  refine lv_iload hx hb dM_load_132 (lv_at hl 0 rfl) ?_
                  refine lv_iload_n hx hb dM_load_134 rfl (lv_at hl 3 rfl) ?_
                  refine mp_i (cx := []) (wr := []) hP hD hS hA [] [] rfl rfl rfl (by decide) (va_runS (As := [.int (nI 2)]) (rest := [.int (nI i31)]) F (N_M_openSize_2 l g _ T s42 pl hO hU ) (va_cwS 1 hts (wg_app (wg_c kw_1764 (wg_c kw_1765 (wg_c kw_9 wg_n))) kw_1766) rfl rfl rfl (by decide +kernel) ⟨by decide, by decide⟩) (pp_S (en_ok g) hP hD hS hA hE [] rfl rfl) rfl rfl hl.1 rfl (lv_room (Nat.le_of_ble_eq_true rfl)) dM_load_135 ⟨by omega, by omega⟩) (fun r135 u90 H locs hu90 hP hD hS => ?_)
                  obtain ⟨q90, pl⟩ := u90
                  obtain ⟨⟨eq90, rfl, hFc90, ⟨x192, hx_192, hb_192⟩, hxp90, -⟩, hO⟩ := hu90
                  have hO : okn g T q90.2 pl := hO
                  have hP : va_P g.1 vcl ([] ++ pl) _ := hP
                  have hD : va_D _ ([] ++ pl) := hD
                  have hFc90 : frm (M_M_openSize_2) s42 q90.2 := hFc90
                  have hb_192 : x192 < 1569 := hb_192
                  replace hR := bnd_step hR eq90
                  have hF := frm_tr hF hFc90 (fun k hk => by unfold M_M_openSize_2 at hk; unfold M_M_load; omega)
                  have hf305 : q90.2.1 148 1 = nI tp := fc_F hf301 hFc90 (by unfold M_M_openSize_2; omega)
                  have hf306 : q90.2.1 148 2 = nI rs := fc_F hf302 hFc90 (by unfold M_M_openSize_2; omega)
                  have hf307 : q90.2.1 148 3 = nI ks := fc_F hf303 hFc90 (by unfold M_M_openSize_2; omega)
                  have hf308 : q90.2.1 148 0 = nI 0 := fc_F hf304 hFc90 (by unfold M_M_openSize_2; omega)
                  have hg189 : SETS ks (q90.2.1 170) := by rw [hFc90 170 (by unfold M_M_openSize_2; omega)]; exact hg181
                  have hg190 : HIDS ks (q90.2.1 171) := by rw [hFc90 171 (by unfold M_M_openSize_2; omega)]; exact hg182
                  obtain ⟨z90, ez90, hz157, hz158⟩ := cl_of (b := 2147483648) hx_192 (by omega) (by decide)
                  replace hR := bnd_step hR ez90
                  refine mi_as hz157 ?_
                  have hsz50 : z90 = 1568 := (nI_eq (by omega) (by omega)).mp (hz157.symm.trans hxp90)
                  subst hsz50
                  refine W.widen (k := 0) (n := 0) (by omega) (by omega) ?_
                  refine mi_ge (tgt := 168) hx hb dM_load_138 (by decide) (by omega) (by omega) (fun h81 => absurd h81 (by omega)) (fun h81 => ?_)
                  refine lv_aload_n hx hb dM_load_141 rfl (lv_at hl 2 rfl) ?_
                  refine nw_get (C := "LatticeKeysModel") (TT := T_M) (N := 14) hx hb hts (wg_ft i_M) hown hK hO k_h0 (kn := 148) (ci := 8) (fl := [(0, 0), (0, 0), (0, 0), (0, 0), (3, 149), (3, 150), (3, 151), (3, 152), (3, 161), (3, 170), (3, 171), (3, 172), (3, 184), (3, 225)]) rfl hP rfl 7 (by decide) (hts _ (wg_t kw_1533)) (fun _ h9 => h9) (cd := (3, 152)) rfl dM_load_142 (fun v93 hv95 => ?_)
                  obtain ⟨r136, rfl, kr66⟩ := (show ∃ r : Nat, v93 = .ref r ∧ T r = some 152 from hv95)
                  refine lv_aload_n hx hb dM_load_145 rfl (lv_at hl 2 rfl) ?_
                  refine nw_get (C := "LatticeKeysModel") (TT := T_M) (N := 14) hx hb hts (wg_ft i_M) hown hK hO k_h0 (kn := 148) (ci := 8) (fl := [(0, 0), (0, 0), (0, 0), (0, 0), (3, 149), (3, 150), (3, 151), (3, 152), (3, 161), (3, 170), (3, 171), (3, 172), (3, 184), (3, 225)]) rfl hP rfl 3 (by decide) (hts _ (wg_t kw_1529)) (fun _ h9 => h9) (cd := (0, 0)) rfl dM_load_146 (fun v94 hv96 => ?_)
                  obtain rfl := (show v94 = .int (q90.2.1 148 3) from hv96)
                  obtain ⟨z91, ez91, hz159, hz160⟩ := cl_of (b := 2147483648) hf307 (by omega) (by decide)
                  replace hR := bnd_step hR ez91
                  refine mi_as hz159 ?_
                  refine nw_aald4 hx hb hK hO kr66 (k := 152) (b := 153) rfl hP (by omega) (by omega) dM_load_149 (fun r137 kr67 => ?_)
                  have hn32 : nsp (153 + z91) = (1, 2592, []) := rows_okb 153 8 2592 (by decide) _ (by omega)
                  refine lv_iload hx hb dM_load_150 (lv_at hl 0 rfl) ?_
                  refine lv_aload_n hx hb dM_load_152 rfl (lv_at hl 2 rfl) ?_
                  refine nw_get (C := "LatticeKeysModel") (TT := T_M) (N := 14) hx hb hts (wg_ft i_M) hown hK hO k_h0 (kn := 148) (ci := 8) (fl := [(0, 0), (0, 0), (0, 0), (0, 0), (3, 149), (3, 150), (3, 151), (3, 152), (3, 161), (3, 170), (3, 171), (3, 172), (3, 184), (3, 225)]) rfl hP rfl 4 (by decide) (hts _ (wg_t kw_1530)) (fun _ h9 => h9) (cd := (3, 149)) rfl dM_load_153 (fun v95 hv97 => ?_)
                  obtain ⟨r138, rfl, kr68⟩ := (show ∃ r : Nat, v95 = .ref r ∧ T r = some 149 from hv97)
                  refine lv_iload_n hx hb dM_load_156 rfl (lv_at hl 1 rfl) ?_
                  refine lv_iload hx hb dM_load_157 (lv_at hl 0 rfl) ?_
                  refine mi_iadd hx hb dM_load_159 ?_
                  refine nw_bald hx hb hK hO kr68 (k := 149) rfl hP (by omega) (by omega) dM_load_160 ?_
                  refine nw_bast hx hb hK hO hU kr67 (k := (153 + z91)) hn32 hP hD hS (by omega) (by omega) dM_load_161 (fun s45 pl H locs es33 hO hP hD hS => ?_)
                  replace hR := bnd_step hR es33
                  have hF := frm_sB hF es33 (by unfold M_M_load; omega)
                  have hf309 : s45.1 148 1 = nI tp := fc_B hf305 es33 (by omega)
                  have hf310 : s45.1 148 2 = nI rs := fc_B hf306 es33 (by omega)
                  have hf311 : s45.1 148 3 = nI ks := fc_B hf307 es33 (by omega)
                  have hf312 : s45.1 148 0 = nI 0 := fc_B hf308 es33 (by omega)
                  have hg191 : SETS ks (s45.1 170) := by rw [(ar_sB es33 (by omega))]; exact hg189
                  have hg192 : HIDS ks (s45.1 171) := by rw [(ar_sB es33 (by omega))]; exact hg190
                  refine mi_iinc (k := 0) (x := i31) (d := 1) (y := i31 + 1) (lv' := [(4, .int (nI (i31 + 1))), (3, .int (nI 1536)), (0, .ref h0), (1, .int (nI 2)), (2, .int sc)]) hx hb dM_load_162 hl rfl (by decide) rfl (by decide) rfl (fun ls hl => ?_)
                  refine lv_goto (tgt := 132) hx hb dM_load_165 (by decide) ?_
                  exact ih31 (i31 + 1) s45 pl ls H locs (by omega) hF hf309 hf310 hf311 hf312 hg191 hg192 hR (lv_sub hl [0, 1, 2, 3, 4] rfl) hO hP hD hS
              exact lp31 1568 0 q87.2 pl ls _ _ (by omega) hF hf277 hf278 hf279 hf280 hg179 hg180 hR (lv_sub hl [0, 1, 2, 3, 4] rfl) hO hP hD hS
            · replace hR := hR.trans (if_pos h77)
              refine lv_aload_n hx hb dM_load_107 rfl (lv_at hl 0 rfl) ?_
              refine lv_iconst (v := nI 3) hx hb dM_load_108 (by decide) ?_
              refine mp_i (cx := []) (wr := []) hP hD hS hA [] [] rfl rfl rfl (by decide) (va_runV (As := [.int (nI 3)]) (rest := []) F (N_M_fail l g _ T q85.2 pl hO hU h0 (nI 3) tp rs ks k_h0 hf273 hf274 hf275) (cwV 1 hts (wg_app (wg_c kw_1577 (wg_c kw_1579 (wg_c ks_50 (wg_c kw_9 wg_n)))) kw_1580) rfl rfl rfl (by decide +kernel) ⟨by decide, by decide⟩) (pn_W "LatticeKeysModel" (en_ok g) (ci := 8) (kn := 148) (fl := [(0, 0), (0, 0), (0, 0), (0, 0), (3, 149), (3, 150), (3, 151), (3, 152), (3, 161), (3, 170), (3, 171), (3, 172), (3, 184), (3, 225)]) hK hO k_h0 rfl hP hD hS hA hE [] rfl rfl rfl) rfl rfl hl.1 rfl (lv_room (Nat.le_of_ble_eq_true rfl)) dM_load_109 ⟨by omega, by omega⟩) (fun r139 u91 H locs hu91 hP hD hS => ?_)
              obtain ⟨q91, pl⟩ := u91
              obtain ⟨⟨eq91, rfl, hFc91, ⟨x193, hx_193, hb_193⟩, ⟨x194, hx_194, hb_194⟩, ⟨x195, hx_195, hb_195⟩, -⟩, hO⟩ := hu91
              have hO : okn g T q91.2 pl := hO
              have hP : va_P g.1 vcl ([] ++ pl) _ := hP
              have hD : va_D _ ([] ++ pl) := hD
              have hFc91 : frm (M_M_fail) q85.2 q91.2 := hFc91
              have hb_193 : x193 = tp := hb_193
              have hb_194 : x194 = rs := hb_194
              have hb_195 : x195 = ks := hb_195
              replace hR := bnd_step hR eq91
              have hF := frm_tr hF hFc91 (fun k hk => by unfold M_M_fail at hk; unfold M_M_load; omega)
              have hg193 : SETS ks (q91.2.1 170) := by rw [hFc91 170 (by unfold M_M_fail; omega)]; exact hg175
              have hg194 : HIDS ks (q91.2.1 171) := by rw [hFc91 171 (by unfold M_M_fail; omega)]; exact hg176
              refine W.widen (k := 0) (n := 0) (by omega) (by omega) ?_
              exact mp_iret hx hb hr hlk hP hD hS ((q91.1, q91.2), pl) ⟨⟨hR.symm, rfl, hF, ⟨x193, hx_193, by omega⟩, ⟨x194, hx_194, by omega⟩, ⟨x195, hx_195, by omega⟩, ⟨ks, (hx_195).trans (congrArg nI (show x195 = ks by omega)), by omega, hg193, hg194⟩, trivial⟩, hO⟩ [] rfl rfl rfl (by omega) (by omega) dM_load_112
        · replace hR := hR.trans (if_neg h74)
          refine lv_aload_n hx hb dM_load_44 rfl (lv_at hl 0 rfl) ?_
          refine lv_iconst (v := nI 1) hx hb dM_load_45 (by decide) ?_
          refine mp_i (cx := []) (wr := []) hP hD hS hA [] [] rfl rfl rfl (by decide) (va_runV (As := [.int (nI 1)]) (rest := []) F (N_M_fail l g _ T q84.2 pl hO hU h0 (nI 1) tp rs ks k_h0 hf269 hf270 hf271) (cwV 1 hts (wg_app (wg_c kw_1577 (wg_c kw_1579 (wg_c ks_50 (wg_c kw_9 wg_n)))) kw_1580) rfl rfl rfl (by decide +kernel) ⟨by decide, by decide⟩) (pn_W "LatticeKeysModel" (en_ok g) (ci := 8) (kn := 148) (fl := [(0, 0), (0, 0), (0, 0), (0, 0), (3, 149), (3, 150), (3, 151), (3, 152), (3, 161), (3, 170), (3, 171), (3, 172), (3, 184), (3, 225)]) hK hO k_h0 rfl hP hD hS hA hE [] rfl rfl rfl) rfl rfl hl.1 rfl (lv_room (Nat.le_of_ble_eq_true rfl)) dM_load_46 ⟨by omega, by omega⟩) (fun r140 u92 H locs hu92 hP hD hS => ?_)
          obtain ⟨q92, pl⟩ := u92
          obtain ⟨⟨eq92, rfl, hFc92, ⟨x197, hx_197, hb_197⟩, ⟨x198, hx_198, hb_198⟩, ⟨x199, hx_199, hb_199⟩, -⟩, hO⟩ := hu92
          have hO : okn g T q92.2 pl := hO
          have hP : va_P g.1 vcl ([] ++ pl) _ := hP
          have hD : va_D _ ([] ++ pl) := hD
          have hFc92 : frm (M_M_fail) q84.2 q92.2 := hFc92
          have hb_197 : x197 = tp := hb_197
          have hb_198 : x198 = rs := hb_198
          have hb_199 : x199 = ks := hb_199
          replace hR := bnd_step hR eq92
          have hF := frm_tr hF hFc92 (fun k hk => by unfold M_M_fail at hk; unfold M_M_load; omega)
          have hg195 : SETS ks (q92.2.1 170) := by rw [hFc92 170 (by unfold M_M_fail; omega)]; exact hg173
          have hg196 : HIDS ks (q92.2.1 171) := by rw [hFc92 171 (by unfold M_M_fail; omega)]; exact hg174
          refine W.widen (k := 0) (n := 0) (by omega) (by omega) ?_
          exact mp_iret hx hb hr hlk hP hD hS ((q92.1, q92.2), pl) ⟨⟨hR.symm, rfl, hF, ⟨x197, hx_197, by omega⟩, ⟨x198, hx_198, by omega⟩, ⟨x199, hx_199, by omega⟩, ⟨ks, (hx_199).trans (congrArg nI (show x199 = ks by omega)), by omega, hg195, hg196⟩, trivial⟩, hO⟩ [] rfl rfl rfl (by omega) (by omega) dM_load_49
