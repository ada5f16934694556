set_option linter.all false
abbrev c_M_sign : ByteArray := prog_12_method_23_code
abbrev y_M_sign : MethodName := ⟨"LatticeKeysModel", "sign", "(II)I"⟩
abbrev w_M_sign : List Cond := Cond.code y_M_sign c_M_sign 5 (some .int) :: WG
theorem dM_sign_0 : decode c_M_sign 0 = .ok (.aload_n 0, 1) := by decide +kernel
theorem dM_sign_1 : decode c_M_sign 1 = .ok (.iconst 0, 1) := by decide +kernel
theorem dM_sign_2 : decode c_M_sign 2 = .ok (.putfield 57, 3) := by decide +kernel
theorem dM_sign_5 : decode c_M_sign 5 = .ok (.aload_n 0, 1) := by decide +kernel
theorem dM_sign_6 : decode c_M_sign 6 = .ok (.iload_n 1, 1) := by decide +kernel
theorem dM_sign_7 : decode c_M_sign 7 = .ok (.invokevirtual 103, 3) := by decide +kernel
theorem dM_sign_10 : decode c_M_sign 10 = .ok (.ifCond .ne 22, 3) := by decide +kernel
theorem dM_sign_13 : decode c_M_sign 13 = .ok (.aload_n 0, 1) := by decide +kernel
theorem dM_sign_14 : decode c_M_sign 14 = .ok (.getfield 27, 3) := by decide +kernel
theorem dM_sign_17 : decode c_M_sign 17 = .ok (.iload_n 1, 1) := by decide +kernel
theorem dM_sign_18 : decode c_M_sign 18 = .ok (.iaload, 1) := by decide +kernel
theorem dM_sign_19 : decode c_M_sign 19 = .ok (.iconst 3, 1) := by decide +kernel
theorem dM_sign_20 : decode c_M_sign 20 = .ok (.if_icmp .lt 12, 3) := by decide +kernel
theorem dM_sign_23 : decode c_M_sign 23 = .ok (.aload_n 0, 1) := by decide +kernel
theorem dM_sign_24 : decode c_M_sign 24 = .ok (.getfield 31, 3) := by decide +kernel
theorem dM_sign_27 : decode c_M_sign 27 = .ok (.iload_n 1, 1) := by decide +kernel
theorem dM_sign_28 : decode c_M_sign 28 = .ok (.iaload, 1) := by decide +kernel
theorem dM_sign_29 : decode c_M_sign 29 = .ok (.ifCond .ne 9, 3) := by decide +kernel
theorem dM_sign_32 : decode c_M_sign 32 = .ok (.aload_n 0, 1) := by decide +kernel
theorem dM_sign_33 : decode c_M_sign 33 = .ok (.iconst 1, 1) := by decide +kernel
theorem dM_sign_34 : decode c_M_sign 34 = .ok (.invokevirtual 73, 3) := by decide +kernel
theorem dM_sign_37 : decode c_M_sign 37 = .ok (.ireturn, 1) := by decide +kernel
theorem dM_sign_38 : decode c_M_sign 38 = .ok (.iload_n 2, 1) := by decide +kernel
theorem dM_sign_39 : decode c_M_sign 39 = .ok (.ifCond .lt 21, 3) := by decide +kernel
theorem dM_sign_42 : decode c_M_sign 42 = .ok (.iload_n 2, 1) := by decide +kernel
theorem dM_sign_43 : decode c_M_sign 43 = .ok (.sipush 255, 3) := by decide +kernel
theorem dM_sign_46 : decode c_M_sign 46 = .ok (.if_icmp .gt 14, 3) := by decide +kernel
theorem dM_sign_49 : decode c_M_sign 49 = .ok (.aload_n 0, 1) := by decide +kernel
theorem dM_sign_50 : decode c_M_sign 50 = .ok (.getfield 70, 3) := by decide +kernel
theorem dM_sign_53 : decode c_M_sign 53 = .ok (.bipush 32, 2) := by decide +kernel
theorem dM_sign_55 : decode c_M_sign 55 = .ok (.iload_n 2, 1) := by decide +kernel
theorem dM_sign_56 : decode c_M_sign 56 = .ok (.iadd, 1) := by decide +kernel
theorem dM_sign_57 : decode c_M_sign 57 = .ok (.if_icmp .ge 9, 3) := by decide +kernel
theorem dM_sign_60 : decode c_M_sign 60 = .ok (.aload_n 0, 1) := by decide +kernel
theorem dM_sign_61 : decode c_M_sign 61 = .ok (.iconst 2, 1) := by decide +kernel
theorem dM_sign_62 : decode c_M_sign 62 = .ok (.invokevirtual 73, 3) := by decide +kernel
theorem dM_sign_65 : decode c_M_sign 65 = .ok (.ireturn, 1) := by decide +kernel
theorem dM_sign_66 : decode c_M_sign 66 = .ok (.aload_n 0, 1) := by decide +kernel
theorem dM_sign_67 : decode c_M_sign 67 = .ok (.getfield 53, 3) := by decide +kernel
theorem dM_sign_70 : decode c_M_sign 70 = .ok (.aload_n 0, 1) := by decide +kernel
theorem dM_sign_71 : decode c_M_sign 71 = .ok (.getfield 27, 3) := by decide +kernel
theorem dM_sign_74 : decode c_M_sign 74 = .ok (.iload_n 1, 1) := by decide +kernel
theorem dM_sign_75 : decode c_M_sign 75 = .ok (.iaload, 1) := by decide +kernel
theorem dM_sign_76 : decode c_M_sign 76 = .ok (.iconst 3, 1) := by decide +kernel
theorem dM_sign_77 : decode c_M_sign 77 = .ok (.isub, 1) := by decide +kernel
theorem dM_sign_78 : decode c_M_sign 78 = .ok (.aload_n 0, 1) := by decide +kernel
theorem dM_sign_79 : decode c_M_sign 79 = .ok (.getfield 24, 3) := by decide +kernel
theorem dM_sign_82 : decode c_M_sign 82 = .ok (.iload_n 1, 1) := by decide +kernel
theorem dM_sign_83 : decode c_M_sign 83 = .ok (.aaload, 1) := by decide +kernel
theorem dM_sign_84 : decode c_M_sign 84 = .ok (.aload_n 0, 1) := by decide +kernel
theorem dM_sign_85 : decode c_M_sign 85 = .ok (.getfield 7, 3) := by decide +kernel
theorem dM_sign_88 : decode c_M_sign 88 = .ok (.iload_n 2, 1) := by decide +kernel
theorem dM_sign_89 : decode c_M_sign 89 = .ok (.aload_n 0, 1) := by decide +kernel
theorem dM_sign_90 : decode c_M_sign 90 = .ok (.getfield 70, 3) := by decide +kernel
theorem dM_sign_93 : decode c_M_sign 93 = .ok (.aload_n 0, 1) := by decide +kernel
theorem dM_sign_94 : decode c_M_sign 94 = .ok (.getfield 16, 3) := by decide +kernel
theorem dM_sign_97 : decode c_M_sign 97 = .ok (.invokevirtual 120, 3) := by decide +kernel
theorem dM_sign_100 : decode c_M_sign 100 = .ok (.istore_n 3, 1) := by decide +kernel
theorem dM_sign_101 : decode c_M_sign 101 = .ok (.iload_n 3, 1) := by decide +kernel
theorem dM_sign_102 : decode c_M_sign 102 = .ok (.ifCond .ne 9, 3) := by decide +kernel
theorem dM_sign_105 : decode c_M_sign 105 = .ok (.aload_n 0, 1) := by decide +kernel
theorem dM_sign_106 : decode c_M_sign 106 = .ok (.iconst 3, 1) := by decide +kernel
theorem dM_sign_107 : decode c_M_sign 107 = .ok (.invokevirtual 73, 3) := by decide +kernel
theorem dM_sign_110 : decode c_M_sign 110 = .ok (.ireturn, 1) := by decide +kernel
theorem dM_sign_111 : decode c_M_sign 111 = .ok (.aload_n 0, 1) := by decide +kernel
theorem dM_sign_112 : decode c_M_sign 112 = .ok (.aload_n 0, 1) := by decide +kernel
theorem dM_sign_113 : decode c_M_sign 113 = .ok (.getfield 27, 3) := by decide +kernel
theorem dM_sign_116 : decode c_M_sign 116 = .ok (.iload_n 1, 1) := by decide +kernel
theorem dM_sign_117 : decode c_M_sign 117 = .ok (.iaload, 1) := by decide +kernel
theorem dM_sign_118 : decode c_M_sign 118 = .ok (.iconst 3, 1) := by decide +kernel
theorem dM_sign_119 : decode c_M_sign 119 = .ok (.isub, 1) := by decide +kernel
theorem dM_sign_120 : decode c_M_sign 120 = .ok (.invokestatic 124, 3) := by decide +kernel
theorem dM_sign_123 : decode c_M_sign 123 = .ok (.putfield 80, 3) := by decide +kernel
theorem dM_sign_126 : decode c_M_sign 126 = .ok (.iconst 0, 1) := by decide +kernel
theorem dM_sign_127 : decode c_M_sign 127 = .ok (.istore 4, 2) := by decide +kernel
theorem dM_sign_129 : decode c_M_sign 129 = .ok (.iload 4, 2) := by decide +kernel
theorem dM_sign_131 : decode c_M_sign 131 = .ok (.aload_n 0, 1) := by decide +kernel
theorem dM_sign_132 : decode c_M_sign 132 = .ok (.getfield 80, 3) := by decide +kernel
theorem dM_sign_135 : decode c_M_sign 135 = .ok (.if_icmp .ge 23, 3) := by decide +kernel
theorem dM_sign_138 : decode c_M_sign 138 = .ok (.aload_n 0, 1) := by decide +kernel
theorem dM_sign_139 : decode c_M_sign 139 = .ok (.getfield 13, 3) := by decide +kernel
theorem dM_sign_142 : decode c_M_sign 142 = .ok (.iload 4, 2) := by decide +kernel
theorem dM_sign_144 : decode c_M_sign 144 = .ok (.aload_n 0, 1) := by decide +kernel
theorem dM_sign_145 : decode c_M_sign 145 = .ok (.getfield 16, 3) := by decide +kernel
theorem dM_sign_148 : decode c_M_sign 148 = .ok (.iload 4, 2) := by decide +kernel
theorem dM_sign_150 : decode c_M_sign 150 = .ok (.baload, 1) := by decide +kernel
theorem dM_sign_151 : decode c_M_sign 151 = .ok (.bastore, 1) := by decide +kernel
theorem dM_sign_152 : decode c_M_sign 152 = .ok (.iinc 4 1, 3) := by decide +kernel
theorem dM_sign_155 : decode c_M_sign 155 = .ok (.goto (-26), 3) := by decide +kernel
theorem dM_sign_158 : decode c_M_sign 158 = .ok (.aload_n 0, 1) := by decide +kernel
theorem dM_sign_159 : decode c_M_sign 159 = .ok (.iconst 0, 1) := by decide +kernel
theorem dM_sign_160 : decode c_M_sign 160 = .ok (.putfield 70, 3) := by decide +kernel
theorem dM_sign_163 : decode c_M_sign 163 = .ok (.iload_n 3, 1) := by decide +kernel
theorem dM_sign_164 : decode c_M_sign 164 = .ok (.ireturn, 1) := by decide +kernel
def M_M_sign (k : Nat) : Prop := (227 ≤ k ∧ k < 291) ∨ (292 ≤ k ∧ k < 299) ∨ (300 ≤ k ∧ k < 308) ∨ (309 ≤ k ∧ k < 317) ∨ (327 ≤ k ∧ k < 334) ∨ (335 ≤ k ∧ k < 342) ∨ (343 ≤ k ∧ k < 350) ∨ (351 ≤ k ∧ k < 359) ∨ (360 ≤ k ∧ k < 368) ∨ k = 148 ∨ k = 150 ∨ k = 151 ∨ k = 172 ∨ k = 225 ∨ k = 368 ∨ k = 369 ∨ k = 370 ∨ k = 373 ∨ k = 374 ∨ k = 375 ∨ k = 376 ∨ (0 : Nat) = 1
noncomputable def F_M_sign_L2 (z42 : Int32) : Nat → Nat → Sto → Int32 × Sto
  | 0, i23, s31 => bnd ((s31.1 148 2).toNatClampNeg) fun z44 => bnd (sI s31 148 1 (nI 0)) fun s32 => (z42, s32)
  | n23 + 1, i23, s31 => bnd ((s31.1 148 2).toNatClampNeg) fun z45 => bnd (sB s31 150 i23 (s31.1 151 i23)) fun s33 => F_M_sign_L2 z42 n23 (i23 + 1) s33
noncomputable def F_M_sign_L1 (z34 : Int32) : Nat → Nat → Sto → Int32 × Sto
  | 0, i22, s27 => bnd ((s27.1 148 2).toNatClampNeg) fun z36 => bnd (sI s27 148 1 (nI 0)) fun s28 => (z34, s28)
  | n22 + 1, i22, s27 => bnd ((s27.1 148 2).toNatClampNeg) fun z37 => bnd (sB s27 150 i22 (s27.1 151 i22)) fun s29 => F_M_sign_L1 z34 n22 (i22 + 1) s29
noncomputable def F_M_sign_L0 (z26 : Int32) : Nat → Nat → Sto → Int32 × Sto
  | 0, i21, s23 => bnd ((s23.1 148 2).toNatClampNeg) fun z28 => bnd (sI s23 148 1 (nI 0)) fun s24 => (z26, s24)
  | n21 + 1, i21, s23 => bnd ((s23.1 148 2).toNatClampNeg) fun z29 => bnd (sB s23 150 i21 (s23.1 151 i21)) fun s25 => F_M_sign_L0 z26 n21 (i21 + 1) s25
noncomputable def F_M_sign (v : Int32) (v2 : Int32) (s : Sto) : Int32 × Sto := bnd (sI s 148 0 (nI 0)) fun s21 => bnd (F_M_none v s21) fun q21 => if (q21.1) = 0 then bnd (v.toNatClampNeg) fun z21 => if (q21.2.1 170 z21) = nI 0 then bnd (F_M_fail (nI 1) q21.2) fun q23 => (q23.1, q23.2) else if (q21.2.1 170 z21) = nI 1 then bnd (F_M_fail (nI 1) q21.2) fun q24 => (q24.1, q24.2) else if (q21.2.1 170 z21) = nI 2 then bnd (F_M_fail (nI 1) q21.2) fun q25 => (q25.1, q25.2) else if (q21.2.1 170 z21) = nI 3 then bnd ((q21.2.1 171 z21).toNatClampNeg) fun z22 => if (nI z22) = 0 then bnd (F_M_fail (nI 1) q21.2) fun q32 => (q32.1, q32.2) else if v2 < 0 then bnd (F_M_fail (nI 2) q21.2) fun q26 => (q26.1, q26.2) else if (nI 255) < v2 then bnd (F_M_fail (nI 2) q21.2) fun q27 => (q27.1, q27.2) else bnd (v2.toNatClampNeg) fun z23 => bnd ((q21.2.1 148 1).toNatClampNeg) fun z24 => if 32 + z23 ≤ z24 then bnd ((q21.2.1 148 1).toNatClampNeg) fun z25 => bnd (F_MH_sign_0 (162 + z21) 149 16384 (nI z23) z25 151 q21.2) fun q28 => bnd (q28.1) fun z26 => if z26 = 0 then bnd (F_M_fail (nI 3) q28.2) fun q30 => (q30.1, q30.2) else bnd (F_MH_markSize_0  q28.2) fun q29 => bnd (q29.1.toNatClampNeg) fun z27 => bnd (sI q29.2 148 2 (nI 2420)) fun s22 => F_M_sign_L0 z26 2420 0 s22 else bnd (F_M_fail (nI 2) q21.2) fun q31 => (q31.1, q31.2) else if (q21.2.1 170 z21) = nI 4 then bnd ((q21.2.1 171 z21).toNatClampNeg) fun z30 => if (nI z30) = 0 then bnd (F_M_fail (nI 1) q21.2) fun q39 => (q39.1, q39.2) else if v2 < 0 then bnd (F_M_fail (nI 2) q21.2) fun q33 => (q33.1, q33.2) else if (nI 255) < v2 then bnd (F_M_fail (nI 2) q21.2) fun q34 => (q34.1, q34.2) else bnd (v2.toNatClampNeg) fun z31 => bnd ((q21.2.1 148 1).toNatClampNeg) fun z32 => if 32 + z31 ≤ z32 then bnd ((q21.2.1 148 1).toNatClampNeg) fun z33 => bnd (F_MH_sign_1 (162 + z21) 149 16384 (nI z31) z33 151 q21.2) fun q35 => bnd (q35.1) fun z34 => if z34 = 0 then bnd (F_M_fail (nI 3) q35.2) fun q37 => (q37.1, q37.2) else bnd (F_MH_markSize_1  q35.2) fun q36 => bnd (q36.1.toNatClampNeg) fun z35 => bnd (sI q36.2 148 2 (nI 3309)) fun s26 => F_M_sign_L1 z34 3309 0 s26 else bnd (F_M_fail (nI 2) q21.2) fun q38 => (q38.1, q38.2) else bnd ((q21.2.1 171 z21).toNatClampNeg) fun z38 => if (nI z38) = 0 then bnd (F_M_fail (nI 1) q21.2) fun q46 => (q46.1, q46.2) else if v2 < 0 then bnd (F_M_fail (nI 2) q21.2) fun q40 => (q40.1, q40.2) else if (nI 255) < v2 then bnd (F_M_fail (nI 2) q21.2) fun q41 => (q41.1, q41.2) else bnd (v2.toNatClampNeg) fun z39 => bnd ((q21.2.1 148 1).toNatClampNeg) fun z40 => if 32 + z39 ≤ z40 then bnd ((q21.2.1 148 1).toNatClampNeg) fun z41 => bnd (F_MH_sign_2 (162 + z21) 149 16384 (nI z39) z41 151 q21.2) fun q42 => bnd (q42.1) fun z42 => if z42 = 0 then bnd (F_M_fail (nI 3) q42.2) fun q44 => (q44.1, q44.2) else bnd (F_MH_markSize_2  q42.2) fun q43 => bnd (q43.1.toNatClampNeg) fun z43 => bnd (sI q43.2 148 2 (nI 4627)) fun s30 => F_M_sign_L2 z42 4627 0 s30 else bnd (F_M_fail (nI 2) q21.2) fun q45 => (q45.1, q45.2) else bnd (F_M_fail (nI 1) q21.2) fun q22 => (q22.1, q22.2)
noncomputable def E_M_sign (v : Int32) (v2 : Int32) (s : Sto) : Prop := bnd (sI s 148 0 (nI 0)) fun s21 => bnd (F_M_none v s21) fun q21 => if (q21.1) = 0 then bnd (v.toNatClampNeg) fun z21 => if (q21.2.1 170 z21) = nI 0 then bnd (F_M_fail (nI 1) q21.2) fun q23 => True else if (q21.2.1 170 z21) = nI 1 then bnd (F_M_fail (nI 1) q21.2) fun q24 => True else if (q21.2.1 170 z21) = nI 2 then bnd (F_M_fail (nI 1) q21.2) fun q25 => True else if (q21.2.1 170 z21) = nI 3 then bnd ((q21.2.1 171 z21).toNatClampNeg) fun z22 => if (nI z22) = 0 then bnd (F_M_fail (nI 1) q21.2) fun q32 => True else if v2 < 0 then bnd (F_M_fail (nI 2) q21.2) fun q26 => True else if (nI 255) < v2 then bnd (F_M_fail (nI 2) q21.2) fun q27 => True else bnd (v2.toNatClampNeg) fun z23 => bnd ((q21.2.1 148 1).toNatClampNeg) fun z24 => if 32 + z23 ≤ z24 then bnd ((q21.2.1 148 1).toNatClampNeg) fun z25 => (E_MH_sign_0 (162 + z21) 149 16384 (nI z23) z25 151 q21.2) ∧ (bnd (F_MH_sign_0 (162 + z21) 149 16384 (nI z23) z25 151 q21.2) fun q28 => bnd (q28.1) fun z26 => if z26 = 0 then bnd (F_M_fail (nI 3) q28.2) fun q30 => True else bnd (F_MH_markSize_0  q28.2) fun q29 => bnd (q29.1.toNatClampNeg) fun z27 => bnd (sI q29.2 148 2 (nI 2420)) fun s22 => True) else bnd (F_M_fail (nI 2) q21.2) fun q31 => True else if (q21.2.1 170 z21) = nI 4 then bnd ((q21.2.1 171 z21).toNatClampNeg) fun z30 => if (nI z30) = 0 then bnd (F_M_fail (nI 1) q21.2) fun q39 => True else if v2 < 0 then bnd (F_M_fail (nI 2) q21.2) fun q33 => True else if (nI 255) < v2 then bnd (F_M_fail (nI 2) q21.2) fun q34 => True else bnd (v2.toNatClampNeg) fun z31 => bnd ((q21.2.1 148 1).toNatClampNeg) fun z32 => if 32 + z31 ≤ z32 then bnd ((q21.2.1 148 1).toNatClampNeg) fun z33 => (E_MH_sign_1 (162 + z21) 149 16384 (nI z31) z33 151 q21.2) ∧ (bnd (F_MH_sign_1 (162 + z21) 149 16384 (nI z31) z33 151 q21.2) fun q35 => bnd (q35.1) fun z34 => if z34 = 0 then bnd (F_M_fail (nI 3) q35.2) fun q37 => True else bnd (F_MH_markSize_1  q35.2) fun q36 => bnd (q36.1.toNatClampNeg) fun z35 => bnd (sI q36.2 148 2 (nI 3309)) fun s26 => True) else bnd (F_M_fail (nI 2) q21.2) fun q38 => True else bnd ((q21.2.1 171 z21).toNatClampNeg) fun z38 => if (nI z38) = 0 then bnd (F_M_fail (nI 1) q21.2) fun q46 => True else if v2 < 0 then bnd (F_M_fail (nI 2) q21.2) fun q40 => True else if (nI 255) < v2 then bnd (F_M_fail (nI 2) q21.2) fun q41 => True else bnd (v2.toNatClampNeg) fun z39 => bnd ((q21.2.1 148 1).toNatClampNeg) fun z40 => if 32 + z39 ≤ z40 then bnd ((q21.2.1 148 1).toNatClampNeg) fun z41 => (E_MH_sign_2 (162 + z21) 149 16384 (nI z39) z41 151 q21.2) ∧ (bnd (F_MH_sign_2 (162 + z21) 149 16384 (nI z39) z41 151 q21.2) fun q42 => bnd (q42.1) fun z42 => if z42 = 0 then bnd (F_M_fail (nI 3) q42.2) fun q44 => True else bnd (F_MH_markSize_2  q42.2) fun q43 => bnd (q43.1.toNatClampNeg) fun z43 => bnd (sI q43.2 148 2 (nI 4627)) fun s30 => True) else bnd (F_M_fail (nI 2) q21.2) fun q45 => True else bnd (F_M_fail (nI 1) q21.2) fun q22 => True
set_option maxHeartbeats 2000000 in
set_option maxRecDepth 100000 in
theorem N_M_sign (l : Launch) (g : Gd) (sz : Nat) (T : TyN) (s : Sto) (pl : va_W) (hO : okn g T s pl) (hU : inj T) (h0 : Nat) (v : Int32) (v2 : Int32) (tp : Nat) (rs : Nat) (ks : Nat) (k_h0 : T h0 = some 148) (e_tp : s.1 148 1 = nI tp) (e_rs : s.1 148 2 = nI rs) (e_ks : s.1 148 3 = nI ks) (h1 : tp ≤ 16384) (h2 : rs ≤ 8192) (h3 : ks ≤ 8) (qst : SETS ks (s.1 170)) (qhd : HIDS ks (s.1 171)) (hE : E_M_sign v v2 s)  : Met l y_M_sign w_M_sign ({ frames := 6, cells := 0, slots := 0, locals := 144 } : Room) (va_Pc [.ref h0, .int v, .int v2] (pr (en g) g.1 vcl sz ([] ++ pl))) (va_Qi (fun (r : Int32) (u : (Int32 × Sto) × va_W) => (u.1 = F_M_sign v v2 s ∧ r = u.1.1 ∧ frm (M_M_sign) s u.1.2 ∧ (∃ x : Nat, u.1.2.1 148 1 = nI x ∧ x ≤ 16384) ∧ (∃ x : Nat, u.1.2.1 148 2 = nI x ∧ x ≤ 8192) ∧ (∃ x : Nat, u.1.2.1 148 3 = nI x ∧ x ≤ 8) ∧ True) ∧ okn g T u.1.2 u.2) (po g.1 vcl (va_A ([] ++ pl) sz) (fun (u : (Int32 × Sto) × va_W) => [] ++ u.2)) (va_A ([] ++ pl) sz)) 0 0 (va_A ([] ++ pl) sz) := by
  refine mc_entry (cc := c_M_sign) (maxL := 5) (ret := (some .int)) (by decide) rfl (Nat.le_of_ble_eq_true rfl) ?_
  intro p e s0 m args below meth c ls F hr hlk hnm hsz hP hD hEn hA hl
  obtain ⟨hx, hb, hml, hown, hts⟩ := id F
  have hK := hEn.1
  generalize va_A ([] ++ pl) sz = A at hD hEn hA ⊢
  have hS : va_S A s0.heap s0.heap [] := va_S.rf
  have hl : lv_has ls 5 [(0, .ref h0), (1, .int v), (2, .int v2)] := hl
  have hR : F_M_sign v v2 s = F_M_sign v v2 s := rfl
  have hF : frm (M_M_sign) s s := frm_rf
  refine lv_aload_n hx hb dM_sign_0 rfl (lv_at hl 0 rfl) ?_
  refine lv_iconst (v := nI 0) hx hb dM_sign_1 (by decide) ?_
  refine nw_put (C := "LatticeKeysModel") (TT := T_M) (N := 14) hx hb hts (wg_ft i_M) ty_M k_M n_M hown hK hO hU k_h0 (kn := 148) (ci := 8) (fl := [(0, 0), (0, 0), (0, 0), (0, 0), (3, 149), (3, 150), (3, 151), (3, 152), (3, 161), (3, 170), (3, 171), (3, 172), (3, 184), (3, 225)]) rfl hP hD hS rfl 0 (by decide) (hts _ (wg_t kw_1526)) (fun _ h9 => h9) rfl (by decide +kernel) rfl dM_sign_2 (fun s21 pl H locs es21 hO hP hD hS => ?_)
  replace hR := bnd_step hR es21
  replace hE := bndP_step hE es21
  have hF := frm_sI hF es21 (by unfold M_M_sign; omega)
  have hf21 : s21.1 148 1 = nI tp := fc_ne e_tp es21 (by omega)
  have hf22 : s21.1 148 2 = nI rs := fc_ne e_rs es21 (by omega)
  have hf23 : s21.1 148 3 = nI ks := fc_ne e_ks es21 (by omega)
  have hf24 : s21.1 148 0 = nI 0 := fc_eq es21
  have hg21 : SETS ks (s21.1 170) := by rw [(ar_sI es21 (by omega))]; exact qst
  have hg22 : HIDS ks (s21.1 171) := by rw [(ar_sI es21 (by omega))]; exact qhd
  refine lv_aload_n hx hb dM_sign_5 rfl (lv_at hl 0 rfl) ?_
  refine lv_iload_n hx hb dM_sign_6 rfl (lv_at hl 1 rfl) ?_
  refine mp_i (cx := []) (wr := []) hP hD hS hA [] [] rfl rfl rfl (by decide) (va_runV (As := [.int v]) (rest := []) F (N_M_none l g _ T s21 pl hO hU h0 v tp rs ks k_h0 hf21 hf22 hf23 (by omega)) (cwV 1 hts (wg_app (wg_c kw_1781 (wg_c kw_1783 (wg_c ks_65 (wg_c kw_9 wg_n)))) kw_1784) rfl rfl rfl (by decide +kernel) ⟨by decide, by decide⟩) (pn_W "LatticeKeysModel" (en_ok g) (ci := 8) (kn := 148) (fl := [(0, 0), (0, 0), (0, 0), (0, 0), (3, 149), (3, 150), (3, 151), (3, 152), (3, 161), (3, 170), (3, 171), (3, 172), (3, 184), (3, 225)]) hK hO k_h0 rfl hP hD hS hA hEn [] rfl rfl rfl) rfl rfl hl.1 rfl (lv_room (Nat.le_of_ble_eq_true rfl)) dM_sign_7 ⟨by omega, by omega⟩) (fun r21 u21 H locs hu21 hP hD hS => ?_)
  obtain ⟨q21, pl⟩ := u21
  obtain ⟨⟨eq21, rfl, hFc21, hxp21, -⟩, hO⟩ := hu21
  have hO : okn g T q21.2 pl := hO
  have hP : va_P g.1 vcl ([] ++ pl) _ := hP
  have hD : va_D _ ([] ++ pl) := hD
  have hFc21 : frm (M_M_none) s21 q21.2 := hFc21
  replace hR := bnd_step hR eq21
  replace hE := bndP_step hE eq21
  have hF := frm_tr hF hFc21 (fun k hk => by unfold M_M_none at hk; unfold M_M_sign; omega)
  have hf25 : q21.2.1 148 1 = nI tp := fc_F hf21 hFc21 (by unfold M_M_none; omega)
  have hf26 : q21.2.1 148 2 = nI rs := fc_F hf22 hFc21 (by unfold M_M_none; omega)
  have hf27 : q21.2.1 148 3 = nI ks := fc_F hf23 hFc21 (by unfold M_M_none; omega)
  have hf28 : q21.2.1 148 0 = nI 0 := fc_F hf24 hFc21 (by unfold M_M_none; omega)
  have hg23 : SETS ks (q21.2.1 170) := by rw [hFc21 170 (by unfold M_M_none; omega)]; exact hg21
  have hg24 : HIDS ks (q21.2.1 171) := by rw [hFc21 171 (by unfold M_M_none; omega)]; exact hg22
  refine W.widen (k := 0) (n := 0) (by omega) (by omega) ?_
  refine lv_if_ne (tgt := 32) hx hb dM_sign_10 (by decide) (fun h21 => ?_) (fun h21 => ?_)
  · replace hR := hR.trans (if_neg h21)
    replace hE := iteP_neg h21 hE
    refine lv_aload_n hx hb dM_sign_32 rfl (lv_at hl 0 rfl) ?_
    refine lv_iconst (v := nI 1) hx hb dM_sign_33 (by decide) ?_
    refine mp_i (cx := []) (wr := []) hP hD hS hA [] [] rfl rfl rfl (by decide) (va_runV (As := [.int (nI 1)]) (rest := []) F (N_M_fail l g _ T q21.2 pl hO hU h0 (nI 1) tp rs ks k_h0 hf25 hf26 hf27) (cwV 1 hts (wg_app (wg_c kw_1577 (wg_c kw_1579 (wg_c ks_50 (wg_c kw_9 wg_n)))) kw_1580) rfl rfl rfl (by decide +kernel) ⟨by decide, by decide⟩) (pn_W "LatticeKeysModel" (en_ok g) (ci := 8) (kn := 148) (fl := [(0, 0), (0, 0), (0, 0), (0, 0), (3, 149), (3, 150), (3, 151), (3, 152), (3, 161), (3, 170), (3, 171), (3, 172), (3, 184), (3, 225)]) hK hO k_h0 rfl hP hD hS hA hEn [] rfl rfl rfl) rfl rfl hl.1 rfl (lv_room (Nat.le_of_ble_eq_true rfl)) dM_sign_34 ⟨by omega, by omega⟩) (fun r22 u22 H locs hu22 hP hD hS => ?_)
    obtain ⟨q22, pl⟩ := u22
    obtain ⟨⟨eq22, rfl, hFc22, ⟨x22, hx_22, hb_22⟩, ⟨x23, hx_23, hb_23⟩, ⟨x24, hx_24, hb_24⟩, -⟩, hO⟩ := hu22
    have hO : okn g T q22.2 pl := hO
    have hP : va_P g.1 vcl ([] ++ pl) _ := hP
    have hD : va_D _ ([] ++ pl) := hD
    have hFc22 : frm (M_M_fail) q21.2 q22.2 := hFc22
    have hb_22 : x22 = tp := hb_22
    have hb_23 : x23 = rs := hb_23
    have hb_24 : x24 = ks := hb_24
    replace hR := bnd_step hR eq22
    replace hE := bndP_step hE eq22
    have hF := frm_tr hF hFc22 (fun k hk => by unfold M_M_fail at hk; unfold M_M_sign; omega)
    have hg25 : SETS ks (q22.2.1 170) := by rw [hFc22 170 (by unfold M_M_fail; omega)]; exact hg23
    have hg26 : HIDS ks (q22.2.1 171) := by rw [hFc22 171 (by unfold M_M_fail; omega)]; exact hg24
    refine W.widen (k := 0) (n := 0) (by omega) (by omega) ?_
    exact mp_iret hx hb hr hlk hP hD hS ((q22.1, q22.2), pl) ⟨⟨hR.symm, rfl, hF, ⟨x22, hx_22, by omega⟩, ⟨x23, hx_23, by omega⟩, ⟨x24, hx_24, by omega⟩, trivial⟩, hO⟩ [] rfl rfl rfl (by omega) (by omega) dM_sign_37
  · replace hR := hR.trans (if_pos h21)
    replace hE := iteP_pos h21 hE
    obtain ⟨z21, hz21, hv21⟩ := (hxp21.resolve_left (fun h9 => absurd (h9.symm.trans h21) (by decide))).2
    have ez21 : z21 = v.toNatClampNeg := by rw [hv21]; exact (nI_clamp (by omega)).symm
    replace hR := bnd_step hR ez21
    replace hE := bndP_step hE ez21
    rw [hv21] at hl
    refine lv_aload_n hx hb dM_sign_13 rfl (lv_at hl 0 rfl) ?_
    refine nw_get (C := "LatticeKeysModel") (TT := T_M) (N := 14) hx hb hts (wg_ft i_M) hown hK hO k_h0 (kn := 148) (ci := 8) (fl := [(0, 0), (0, 0), (0, 0), (0, 0), (3, 149), (3, 150), (3, 151), (3, 152), (3, 161), (3, 170), (3, 171), (3, 172), (3, 184), (3, 225)]) rfl hP rfl 9 (by decide) (hts _ (wg_t kw_1535)) (fun _ h9 => h9) (cd := (3, 170)) rfl dM_sign_14 (fun v21 hv22 => ?_)
    obtain ⟨r23, rfl, kr21⟩ := (show ∃ r : Nat, v21 = .ref r ∧ T r = some 170 from hv22)
    refine lv_iload_n hx hb dM_sign_17 rfl (lv_at hl 1 rfl) ?_
    refine nw_iald hx hb hK hO kr21 (k := 170) rfl hP (by omega) (by omega) dM_sign_18 ?_
    by_cases hs21 : (q21.2.1 170 z21) = nI 0
    · replace hR := hR.trans (if_pos hs21)
      replace hE := iteP_pos hs21 hE
      refine mi_as hs21 ?_
      refine lv_iconst (v := nI 3) hx hb dM_sign_19 (by decide) ?_
      refine mi_lt (tgt := 32) hx hb dM_sign_20 (by decide) (by omega) (by omega) (fun h22 => ?_) (fun h22 => absurd h22 (by omega))
      refine lv_aload_n hx hb dM_sign_32 rfl (lv_at hl 0 rfl) ?_
      refine lv_iconst (v := nI 1) hx hb dM_sign_33 (by decide) ?_
      refine mp_i (cx := []) (wr := []) hP hD hS hA [] [] rfl rfl rfl (by decide) (va_runV (As := [.int (nI 1)]) (rest := []) F (N_M_fail l g _ T q21.2 pl hO hU h0 (nI 1) tp rs ks k_h0 hf25 hf26 hf27) (cwV 1 hts (wg_app (wg_c kw_1577 (wg_c kw_1579 (wg_c ks_50 (wg_c kw_9 wg_n)))) kw_1580) rfl rfl rfl (by decide +kernel) ⟨by decide, by decide⟩) (pn_W "LatticeKeysModel" (en_ok g) (ci := 8) (kn := 148) (fl := [(0, 0), (0, 0), (0, 0), (0, 0), (3, 149), (3, 150), (3, 151), (3, 152), (3, 161), (3, 170), (3, 171), (3, 172), (3, 184), (3, 225)]) hK hO k_h0 rfl hP hD hS hA hEn [] rfl rfl rfl) rfl rfl hl.1 rfl (lv_room (Nat.le_of_ble_eq_true rfl)) dM_sign_34 ⟨by omega, by omega⟩) (fun r24 u23 H locs hu23 hP hD hS => ?_)
      obtain ⟨q23, pl⟩ := u23
      obtain ⟨⟨eq23, rfl, hFc23, ⟨x26, hx_26, hb_26⟩, ⟨x27, hx_27, hb_27⟩, ⟨x28, hx_28, hb_28⟩, -⟩, hO⟩ := hu23
      have hO : okn g T q23.2 pl := hO
      have hP : va_P g.1 vcl ([] ++ pl) _ := hP
      have hD : va_D _ ([] ++ pl) := hD
      have hFc23 : frm (M_M_fail) q21.2 q23.2 := hFc23
      have hb_26 : x26 = tp := hb_26
      have hb_27 : x27 = rs := hb_27
      have hb_28 : x28 = ks := hb_28
      replace hR := bnd_step hR eq23
      replace hE := bndP_step hE eq23
      have hF := frm_tr hF hFc23 (fun k hk => by unfold M_M_fail at hk; unfold M_M_sign; omega)
      have hf29 : q23.2.1 170 z21 = nI 0 := fc_F hs21 hFc23 (by unfold M_M_fail; omega)
      have hg27 : SETS ks (q23.2.1 170) := by rw [hFc23 170 (by unfold M_M_fail; omega)]; exact hg23
      have hg28 : HIDS ks (q23.2.1 171) := by rw [hFc23 171 (by unfold M_M_fail; omega)]; exact hg24
      refine W.widen (k := 0) (n := 0) (by omega) (by omega) ?_
      exact mp_iret hx hb hr hlk hP hD hS ((q23.1, q23.2), pl) ⟨⟨hR.symm, rfl, hF, ⟨x26, hx_26, by omega⟩, ⟨x27, hx_27, by omega⟩, ⟨x28, hx_28, by omega⟩, trivial⟩, hO⟩ [] rfl rfl rfl (by omega) (by omega) dM_sign_37
    replace hR := hR.trans (if_neg hs21)
    replace hE := iteP_neg hs21 hE
    by_cases hs22 : (q21.2.1 170 z21) = nI 1
    · replace hR := hR.trans (if_pos hs22)
      replace hE := iteP_pos hs22 hE
      refine mi_as hs22 ?_
      refine lv_iconst (v := nI 3) hx hb dM_sign_19 (by decide) ?_
      refine mi_lt (tgt := 32) hx hb dM_sign_20 (by decide) (by omega) (by omega) (fun h23 => ?_) (fun h23 => absurd h23 (by omega))
      refine lv_aload_n hx hb dM_sign_32 rfl (lv_at hl 0 rfl) ?_
      refine lv_iconst (v := nI 1) hx hb dM_sign_33 (by decide) ?_
      refine mp_i (cx := []) (wr := []) hP hD hS hA [] [] rfl rfl rfl (by decide) (va_runV (As := [.int (nI 1)]) (rest := []) F (N_M_fail l g _ T q21.2 pl hO hU h0 (nI 1) tp rs ks k_h0 hf25 hf26 hf27) (cwV 1 hts (wg_app (wg_c kw_1577 (wg_c kw_1579 (wg_c ks_50 (wg_c kw_9 wg_n)))) kw_1580) rfl rfl rfl (by decide +kernel) ⟨by decide, by decide⟩) (pn_W "LatticeKeysModel" (en_ok g) (ci := 8) (kn := 148) (fl := [(0, 0), (0, 0), (0, 0), (0, 0), (3, 149), (3, 150), (3, 151), (3, 152), (3, 161), (3, 170), (3, 171), (3, 172), (3, 184), (3, 225)]) hK hO k_h0 rfl hP hD hS hA hEn [] rfl rfl rfl) rfl rfl hl.1 rfl (lv_room (Nat.le_of_ble_eq_true rfl)) dM_sign_34 ⟨by omega, by omega⟩) (fun r25 u24 H locs hu24 hP hD hS => ?_)
      obtain ⟨q24, pl⟩ := u24
      obtain ⟨⟨eq24, rfl, hFc24, ⟨x30, hx_30, hb_30⟩, ⟨x31, hx_31, hb_31⟩, ⟨x32, hx_32, hb_32⟩, -⟩, hO⟩ := hu24
      have hO : okn g T q24.2 pl := hO
      have hP : va_P g.1 vcl ([] ++ pl) _ := hP
      have hD : va_D _ ([] ++ pl) := hD
      have hFc24 : frm (M_M_fail) q21.2 q24.2 := hFc24
      have hb_30 : x30 = tp := hb_30
      have hb_31 : x31 = rs := hb_31
      have hb_32 : x32 = ks := hb_32
      replace hR := bnd_step hR eq24
      replace hE := bndP_step hE eq24
      have hF := frm_tr hF hFc24 (fun k hk => by unfold M_M_fail at hk; unfold M_M_sign; omega)
      have hf30 : q24.2.1 170 z21 = nI 1 := fc_F hs22 hFc24 (by unfold M_M_fail; omega)
      have hg29 : SETS ks (q24.2.1 170) := by rw [hFc24 170 (by unfold M_M_fail; omega)]; exact hg23
      have hg30 : HIDS ks (q24.2.1 171) := by rw [hFc24 171 (by unfold M_M_fail; omega)]; exact hg24
      refine W.widen (k := 0) (n := 0) (by omega) (by omega) ?_
      exact mp_iret hx hb hr hlk hP hD hS ((q24.1, q24.2), pl) ⟨⟨hR.symm, rfl, hF, ⟨x30, hx_30, by omega⟩, ⟨x31, hx_31, by omega⟩, ⟨x32, hx_32, by omega⟩, trivial⟩, hO⟩ [] rfl rfl rfl (by omega) (by omega) dM_sign_37
    replace hR := hR.trans (if_neg hs22)
    replace hE := iteP_neg hs22 hE
    by_cases hs23 : (q21.2.1 170 z21) = nI 2
    · replace hR := hR.trans (if_pos hs23)
      replace hE := iteP_pos hs23 hE
      refine mi_as hs23 ?_
      refine lv_iconst (v := nI 3) hx hb dM_sign_19 (by decide) ?_
      refine mi_lt (tgt := 32) hx hb dM_sign_20 (by decide) (by omega) (by omega) (fun h24 => ?_) (fun h24 => absurd h24 (by omega))
      refine lv_aload_n hx hb dM_sign_32 rfl (lv_at hl 0 rfl) ?_
      refine lv_iconst (v := nI 1) hx hb dM_sign_33 (by decide) ?_
      refine mp_i (cx := []) (wr := []) hP hD hS hA [] [] rfl rfl rfl (by decide) (va_runV (As := [.int (nI 1)]) (rest := []) F (N_M_fail l g _ T q21.2 pl hO hU h0 (nI 1) tp rs ks k_h0 hf25 hf26 hf27) (cwV 1 hts (wg_app (wg_c kw_1577 (wg_c kw_1579 (wg_c ks_50 (wg_c kw_9 wg_n)))) kw_1580) rfl rfl rfl (by decide +kernel) ⟨by decide, by decide⟩) (pn_W "LatticeKeysModel" (en_ok g) (ci := 8) (kn := 148) (fl := [(0, 0), (0, 0), (0, 0), (0, 0), (3, 149), (3, 150), (3, 151), (3, 152), (3, 161), (3, 170), (3, 171), (3, 172), (3, 184), (3, 225)]) hK hO k_h0 rfl hP hD hS hA hEn [] rfl rfl rfl) rfl rfl hl.1 rfl (lv_room (Nat.le_of_ble_eq_true rfl)) dM_sign_34 ⟨by omega, by omega⟩) (fun r26 u25 H locs hu25 hP hD hS => ?_)
      obtain ⟨q25, pl⟩ := u25
      obtain ⟨⟨eq25, rfl, hFc25, ⟨x34, hx_34, hb_34⟩, ⟨x35, hx_35, hb_35⟩, ⟨x36, hx_36, hb_36⟩, -⟩, hO⟩ := hu25
      have hO : okn g T q25.2 pl := hO
      have hP : va_P g.1 vcl ([] ++ pl) _ := hP
      have hD : va_D _ ([] ++ pl) := hD
      have hFc25 : frm (M_M_fail) q21.2 q25.2 := hFc25
      have hb_34 : x34 = tp := hb_34
      have hb_35 : x35 = rs := hb_35
      have hb_36 : x36 = ks := hb_36
      replace hR := bnd_step hR eq25
      replace hE := bndP_step hE eq25
      have hF := frm_tr hF hFc25 (fun k hk => by unfold M_M_fail at hk; unfold M_M_sign; omega)
      have hf31 : q25.2.1 170 z21 = nI 2 := fc_F hs23 hFc25 (by unfold M_M_fail; omega)
      have hg31 : SETS ks (q25.2.1 170) := by rw [hFc25 170 (by unfold M_M_fail; omega)]; exact hg23
      have hg32 : HIDS ks (q25.2.1 171) := by rw [hFc25 171 (by unfold M_M_fail; omega)]; exact hg24
      refine W.widen (k := 0) (n := 0) (by omega) (by omega) ?_
      exact mp_iret hx hb hr hlk hP hD hS ((q25.1, q25.2), pl) ⟨⟨hR.symm, rfl, hF, ⟨x34, hx_34, by omega⟩, ⟨x35, hx_35, by omega⟩, ⟨x36, hx_36, by omega⟩, trivial⟩, hO⟩ [] rfl rfl rfl (by omega) (by omega) dM_sign_37
    replace hR := hR.trans (if_neg hs23)
    replace hE := iteP_neg hs23 hE
    by_cases hs24 : (q21.2.1 170 z21) = nI 3
    · replace hR := hR.trans (if_pos hs24)
      replace hE := iteP_pos hs24 hE
      refine mi_as hs24 ?_
      refine lv_iconst (v := nI 3) hx hb dM_sign_19 (by decide) ?_
      refine mi_lt (tgt := 32) hx hb dM_sign_20 (by decide) (by omega) (by omega) (fun h25 => absurd h25 (by omega)) (fun h25 => ?_)
      refine lv_aload_n hx hb dM_sign_23 rfl (lv_at hl 0 rfl) ?_
      refine nw_get (C := "LatticeKeysModel") (TT := T_M) (N := 14) hx hb hts (wg_ft i_M) hown hK hO k_h0 (kn := 148) (ci := 8) (fl := [(0, 0), (0, 0), (0, 0), (0, 0), (3, 149), (3, 150), (3, 151), (3, 152), (3, 161), (3, 170), (3, 171), (3, 172), (3, 184), (3, 225)]) rfl hP rfl 10 (by decide) (hts _ (wg_t kw_1536)) (fun _ h9 => h9) (cd := (3, 171)) rfl dM_sign_24 (fun v22 hv23 => ?_)
      obtain ⟨r27, rfl, kr22⟩ := (show ∃ r : Nat, v22 = .ref r ∧ T r = some 171 from hv23)
      refine lv_iload_n hx hb dM_sign_27 rfl (lv_at hl 1 rfl) ?_
      refine nw_iald hx hb hK hO kr22 (k := 171) rfl hP (by omega) (by omega) dM_sign_28 ?_
      obtain ⟨c21, hc21, hb21⟩ := hg24 z21 (by omega)
      obtain ⟨z22, ez22, hz22, hz23⟩ := cl_of (b := 2147483648) hc21 (by omega) (by decide)
      replace hR := bnd_step hR ez22
      replace hE := bndP_step hE ez22
      refine mi_as hz22 ?_
      refine lv_if_ne (tgt := 38) hx hb dM_sign_29 (by decide) (fun h26 => ?_) (fun h26 => ?_)
      · replace hR := hR.trans (if_neg h26)
        replace hE := iteP_neg h26 hE
        refine lv_iload_n hx hb dM_sign_38 rfl (lv_at hl 2 rfl) ?_
        refine lv_if_lt (tgt := 60) hx hb dM_sign_39 (by decide) (fun h27 => ?_) (fun h27 => ?_)
        · replace hR := hR.trans (if_pos h27)
          replace hE := iteP_pos h27 hE
          refine lv_aload_n hx hb dM_sign_60 rfl (lv_at hl 0 rfl) ?_
          refine lv_iconst (v := nI 2) hx hb dM_sign_61 (by decide) ?_
          refine mp_i (cx := []) (wr := []) hP hD hS hA [] [] rfl rfl rfl (by decide) (va_runV (As := [.int (nI 2)]) (rest := []) F (N_M_fail l g _ T q21.2 pl hO hU h0 (nI 2) tp rs ks k_h0 hf25 hf26 hf27) (cwV 1 hts (wg_app (wg_c kw_1577 (wg_c kw_1579 (wg_c ks_50 (wg_c kw_9 wg_n)))) kw_1580) rfl rfl rfl (by decide +kernel) ⟨by decide, by decide⟩) (pn_W "LatticeKeysModel" (en_ok g) (ci := 8) (kn := 148) (fl := [(0, 0), (0, 0), (0, 0), (0, 0), (3, 149), (3, 150), (3, 151), (3, 152), (3, 161), (3, 170), (3, 171), (3, 172), (3, 184), (3, 225)]) hK hO k_h0 rfl hP hD hS hA hEn [] rfl rfl rfl) rfl rfl hl.1 rfl (lv_room (Nat.le_of_ble_eq_true rfl)) dM_sign_62 ⟨by omega, by omega⟩) (fun r28 u26 H locs hu26 hP hD hS => ?_)
          obtain ⟨q26, pl⟩ := u26
          obtain ⟨⟨eq26, rfl, hFc26, ⟨x38, hx_38, hb_38⟩, ⟨x39, hx_39, hb_39⟩, ⟨x40, hx_40, hb_40⟩, -⟩, hO⟩ := hu26
          have hO : okn g T q26.2 pl := hO
          have hP : va_P g.1 vcl ([] ++ pl) _ := hP
          have hD : va_D _ ([] ++ pl) := hD
          have hFc26 : frm (M_M_fail) q21.2 q26.2 := hFc26
          have hb_38 : x38 = tp := hb_38
          have hb_39 : x39 = rs := hb_39
          have hb_40 : x40 = ks := hb_40
          replace hR := bnd_step hR eq26
          replace hE := bndP_step hE eq26
          have hF := frm_tr hF hFc26 (fun k hk => by unfold M_M_fail at hk; unfold M_M_sign; omega)
          have hf32 : q26.2.1 170 z21 = nI 3 := fc_F hs24 hFc26 (by unfold M_M_fail; omega)
          have hf33 : q26.2.1 171 z21 = nI z22 := fc_F hz22 hFc26 (by unfold M_M_fail; omega)
          have hg33 : SETS ks (q26.2.1 170) := by rw [hFc26 170 (by unfold M_M_fail; omega)]; exact hg23
          have hg34 : HIDS ks (q26.2.1 171) := by rw [hFc26 171 (by unfold M_M_fail; omega)]; exact hg24
          refine W.widen (k := 0) (n := 0) (by omega) (by omega) ?_
          exact mp_iret hx hb hr hlk hP hD hS ((q26.1, q26.2), pl) ⟨⟨hR.symm, rfl, hF, ⟨x38, hx_38, by omega⟩, ⟨x39, hx_39, by omega⟩, ⟨x40, hx_40, by omega⟩, trivial⟩, hO⟩ [] rfl rfl rfl (by omega) (by omega) dM_sign_65
        · replace hR := hR.trans (if_neg h27)
          replace hE := iteP_neg h27 hE
          refine lv_iload_n hx hb dM_sign_42 rfl (lv_at hl 2 rfl) ?_
          refine lv_sipush (v := nI 255) hx hb dM_sign_43 (by decide) ?_
          refine lv_icmp_gt (tgt := 60) hx hb dM_sign_46 (by decide) (fun h28 => ?_) (fun h28 => ?_)
          · replace hR := hR.trans (if_pos h28)
            replace hE := iteP_pos h28 hE
            refine lv_aload_n hx hb dM_sign_60 rfl (lv_at hl 0 rfl) ?_
            refine lv_iconst (v := nI 2) hx hb dM_sign_61 (by decide) ?_
            refine mp_i (cx := []) (wr := []) hP hD hS hA [] [] rfl rfl rfl (by decide) (va_runV (As := [.int (nI 2)]) (rest := []) F (N_M_fail l g _ T q21.2 pl hO hU h0 (nI 2) tp rs ks k_h0 hf25 hf26 hf27) (cwV 1 hts (wg_app (wg_c kw_1577 (wg_c kw_1579 (wg_c ks_50 (wg_c kw_9 wg_n)))) kw_1580) rfl rfl rfl (by decide +kernel) ⟨by decide, by decide⟩) (pn_W "LatticeKeysModel" (en_ok g) (ci := 8) (kn := 148) (fl := [(0, 0), (0, 0), (0, 0), (0, 0), (3, 149), (3, 150), (3, 151), (3, 152), (3, 161), (3, 170), (3, 171), (3, 172), (3, 184), (3, 225)]) hK hO k_h0 rfl hP hD hS hA hEn [] rfl rfl rfl) rfl rfl hl.1 rfl (lv_room (Nat.le_of_ble_eq_true rfl)) dM_sign_62 ⟨by omega, by omega⟩) (fun r29 u27 H locs hu27 hP hD hS => ?_)
            obtain ⟨q27, pl⟩ := u27
            obtain ⟨⟨eq27, rfl, hFc27, ⟨x42, hx_42, hb_42⟩, ⟨x43, hx_43, hb_43⟩, ⟨x44, hx_44, hb_44⟩, -⟩, hO⟩ := hu27
            have hO : okn g T q27.2 pl := hO
            have hP : va_P g.1 vcl ([] ++ pl) _ := hP
            have hD : va_D _ ([] ++ pl) := hD
            have hFc27 : frm (M_M_fail) q21.2 q27.2 := hFc27
            have hb_42 : x42 = tp := hb_42
            have hb_43 : x43 = rs := hb_43
            have hb_44 : x44 = ks := hb_44
            replace hR := bnd_step hR eq27
            replace hE := bndP_step hE eq27
            have hF := frm_tr hF hFc27 (fun k hk => by unfold M_M_fail at hk; unfold M_M_sign; omega)
            have hf34 : q27.2.1 170 z21 = nI 3 := fc_F hs24 hFc27 (by unfold M_M_fail; omega)
            have hf35 : q27.2.1 171 z21 = nI z22 := fc_F hz22 hFc27 (by unfold M_M_fail; omega)
            have hg35 : SETS ks (q27.2.1 170) := by rw [hFc27 170 (by unfold M_M_fail; omega)]; exact hg23
            have hg36 : HIDS ks (q27.2.1 171) := by rw [hFc27 171 (by unfold M_M_fail; omega)]; exact hg24
            refine W.widen (k := 0) (n := 0) (by omega) (by omega) ?_
            exact mp_iret hx hb hr hlk hP hD hS ((q27.1, q27.2), pl) ⟨⟨hR.symm, rfl, hF, ⟨x42, hx_42, by omega⟩, ⟨x43, hx_43, by omega⟩, ⟨x44, hx_44, by omega⟩, trivial⟩, hO⟩ [] rfl rfl rfl (by omega) (by omega) dM_sign_65
          · replace hR := hR.trans (if_neg h28)
            replace hE := iteP_neg h28 hE
            obtain ⟨z23, hz24, hv24⟩ := i32_lex h27 (by omega) h28
            have ez23 : z23 = v2.toNatClampNeg := by rw [hv24]; exact (nI_clamp (by omega)).symm
            replace hR := bnd_step hR ez23
            replace hE := bndP_step hE ez23
            rw [hv24] at hl
            refine lv_aload_n hx hb dM_sign_49 rfl (lv_at hl 0 rfl) ?_
            refine nw_get (C := "LatticeKeysModel") (TT := T_M) (N := 14) hx hb hts (wg_ft i_M) hown hK hO k_h0 (kn := 148) (ci := 8) (fl := [(0, 0), (0, 0), (0, 0), (0, 0), (3, 149), (3, 150), (3, 151), (3, 152), (3, 161), (3, 170), (3, 171), (3, 172), (3, 184), (3, 225)]) rfl hP rfl 1 (by decide) (hts _ (wg_t kw_1527)) (fun _ h9 => h9) (cd := (0, 0)) rfl dM_sign_50 (fun v23 hv25 => ?_)
            obtain rfl := (show v23 = .int (q21.2.1 148 1) from hv25)
            obtain ⟨z24, ez24, hz25, hz26⟩ := cl_of (b := 2147483648) hf25 (by omega) (by decide)
            replace hR := bnd_step hR ez24
            replace hE := bndP_step hE ez24
            refine mi_as hz25 ?_
            refine lv_bipush (v := nI 32) hx hb dM_sign_53 (by decide) ?_
            refine lv_iload_n hx hb dM_sign_55 rfl (lv_at hl 2 rfl) ?_
            refine mi_iadd hx hb dM_sign_56 ?_
            refine mi_ge (tgt := 66) hx hb dM_sign_57 (by decide) (by omega) (by omega) (fun h29 => ?_) (fun h29 => ?_)
            · replace hR := hR.trans (if_pos h29)
              replace hE := iteP_pos h29 hE
              refine lv_aload_n hx hb dM_sign_66 rfl (lv_at hl 0 rfl) ?_
              refine nw_get (C := "LatticeKeysModel") (TT := T_M) (N := 14) hx hb hts (wg_ft i_M) hown hK hO k_h0 (kn := 148) (ci := 8) (fl := [(0, 0), (0, 0), (0, 0), (0, 0), (3, 149), (3, 150), (3, 151), (3, 152), (3, 161), (3, 170), (3, 171), (3, 172), (3, 184), (3, 225)]) rfl hP rfl 13 (by decide) (hts _ (wg_t kw_1539)) (fun _ h9 => h9) (cd := (3, 225)) rfl dM_sign_67 (fun v24 hv26 => ?_)
              obtain ⟨r30, rfl, kr23⟩ := (show ∃ r : Nat, v24 = .ref r ∧ T r = some 225 from hv26)
              refine lv_aload_n hx hb dM_sign_70 rfl (lv_at hl 0 rfl) ?_
              refine nw_get (C := "LatticeKeysModel") (TT := T_M) (N := 14) hx hb hts (wg_ft i_M) hown hK hO k_h0 (kn := 148) (ci := 8) (fl := [(0, 0), (0, 0), (0, 0), (0, 0), (3, 149), (3, 150), (3, 151), (3, 152), (3, 161), (3, 170), (3, 171), (3, 172), (3, 184), (3, 225)]) rfl hP rfl 9 (by decide) (hts _ (wg_t kw_1535)) (fun _ h9 => h9) (cd := (3, 170)) rfl dM_sign_71 (fun v25 hv27 => ?_)
              obtain ⟨r31, rfl, kr24⟩ := (show ∃ r : Nat, v25 = .ref r ∧ T r = some 170 from hv27)
              refine lv_iload_n hx hb dM_sign_74 rfl (lv_at hl 1 rfl) ?_
              refine nw_iald hx hb hK hO kr24 (k := 170) rfl hP (by omega) (by omega) dM_sign_75 ?_
              refine mi_as hs24 ?_
              refine lv_iconst (v := nI 3) hx hb dM_sign_76 (by decide) ?_
              refine mi_isub hx hb dM_sign_77 (by omega) ?_
              refine mi_as (show nI (3 - 3) = nI 0 from rfl) ?_
              refine lv_aload_n hx hb dM_sign_78 rfl (lv_at hl 0 rfl) ?_
              refine nw_get (C := "LatticeKeysModel") (TT := T_M) (N := 14) hx hb hts (wg_ft i_M) hown hK hO k_h0 (kn := 148) (ci := 8) (fl := [(0, 0), (0, 0), (0, 0), (0, 0), (3, 149), (3, 150), (3, 151), (3, 152), (3, 161), (3, 170), (3, 171), (3, 172), (3, 184), (3, 225)]) rfl hP rfl 8 (by decide) (hts _ (wg_t kw_1534)) (fun _ h9 => h9) (cd := (3, 161)) rfl dM_sign_79 (fun v26 hv28 => ?_)
              obtain ⟨r32, rfl, kr25⟩ := (show ∃ r : Nat, v26 = .ref r ∧ T r = some 161 from hv28)
              refine lv_iload_n hx hb dM_sign_82 rfl (lv_at hl 1 rfl) ?_
              refine nw_aald4 hx hb hK hO kr25 (k := 161) (b := 162) rfl hP (by omega) (by omega) dM_sign_83 (fun r33 kr26 => ?_)
              have hn21 : nsp (162 + z21) = (1, 4896, []) := rows_okb 162 8 4896 (by decide) _ (by omega)
              refine lv_aload_n hx hb dM_sign_84 rfl (lv_at hl 0 rfl) ?_
              refine nw_get (C := "LatticeKeysModel") (TT := T_M) (N := 14) hx hb hts (wg_ft i_M) hown hK hO k_h0 (kn := 148) (ci := 8) (fl := [(0, 0), (0, 0), (0, 0), (0, 0), (3, 149), (3, 150), (3, 151), (3, 152), (3, 161), (3, 170), (3, 171), (3, 172), (3, 184), (3, 225)]) rfl hP rfl 4 (by decide) (hts _ (wg_t kw_1530)) (fun _ h9 => h9) (cd := (3, 149)) rfl dM_sign_85 (fun v27 hv29 => ?_)
              obtain ⟨r34, rfl, kr27⟩ := (show ∃ r : Nat, v27 = .ref r ∧ T r = some 149 from hv29)
              refine lv_iload_n hx hb dM_sign_88 rfl (lv_at hl 2 rfl) ?_
              refine lv_aload_n hx hb dM_sign_89 rfl (lv_at hl 0 rfl) ?_
              refine nw_get (C := "LatticeKeysModel") (TT := T_M) (N := 14) hx hb hts (wg_ft i_M) hown hK hO k_h0 (kn := 148) (ci := 8) (fl := [(0, 0), (0, 0), (0, 0), (0, 0), (3, 149), (3, 150), (3, 151), (3, 152), (3, 161), (3, 170), (3, 171), (3, 172), (3, 184), (3, 225)]) rfl hP rfl 1 (by decide) (hts _ (wg_t kw_1527)) (fun _ h9 => h9) (cd := (0, 0)) rfl dM_sign_90 (fun v28 hv30 => ?_)
              obtain rfl := (show v28 = .int (q21.2.1 148 1) from hv30)
              obtain ⟨z25, ez25, hz27, hz28⟩ := cl_of (b := 2147483648) hf25 (by omega) (by decide)
              replace hR := bnd_step hR ez25
              replace hE := bndP_step hE ez25
              refine mi_as hz27 ?_
              refine lv_aload_n hx hb dM_sign_93 rfl (lv_at hl 0 rfl) ?_
              refine nw_get (C := "LatticeKeysModel") (TT := T_M) (N := 14) hx hb hts (wg_ft i_M) hown hK hO k_h0 (kn := 148) (ci := 8) (fl := [(0, 0), (0, 0), (0, 0), (0, 0), (3, 149), (3, 150), (3, 151), (3, 152), (3, 161), (3, 170), (3, 171), (3, 172), (3, 184), (3, 225)]) rfl hP rfl 6 (by decide) (hts _ (wg_t kw_1532)) (fun _ h9 => h9) (cd := (3, 151)) rfl dM_sign_94 (fun v29 hv31 => ?_)
              obtain ⟨r35, rfl, kr28⟩ := (show ∃ r : Nat, v29 = .ref r ∧ T r = some 151 from hv31)
              refine mp_i (cx := []) (wr := []) hP hD hS hA [] [] rfl rfl rfl (by decide) (va_runV (As := [.int (nI 0), .ref r33, .ref r34, .int (nI z23), .int (nI z25), .ref r35]) (rest := []) F (N_MH_sign_0 l g _ T q21.2 pl hO hU r30 r33 r34 r35 (162 + z21) 149 16384 (nI z23) z25 151 kr23 kr26 hn21 kr27 rfl kr28 rfl (by omega) (by omega) (by omega) hE.1) (cwV 6 hts (wg_app (wg_c kw_1856 (wg_c kw_1857 (wg_c kw_1858 (wg_c kw_13 wg_n)))) kw_1859) rfl rfl rfl (by decide +kernel) ⟨by decide, by decide⟩) (pn_W "LatticeKeysModel$Hands" (en_ok g) (ci := 12) (kn := 225) (fl := [(3, 172), (3, 181), (3, 226), (3, 291), (3, 299), (3, 308), (3, 317), (3, 326), (3, 334), (3, 342), (3, 350), (3, 359), (3, 368), (3, 369), (3, 370), (3, 371), (3, 372), (3, 373), (3, 374), (3, 375), (3, 376), (3, 377), (3, 378), (0, 0), (0, 0), (0, 0), (0, 0), (0, 0), (0, 0), (0, 0), (0, 0)]) hK hO kr23 rfl hP hD hS hA hEn [] rfl rfl rfl) rfl rfl hl.1 rfl (lv_room (Nat.le_of_ble_eq_true rfl)) dM_sign_97 ⟨by omega, by omega⟩) (fun r36 u28 H locs hu28 hP hD hS => ?_)
              obtain ⟨q28, pl⟩ := u28
              obtain ⟨⟨eq28, rfl, hFc28, -⟩, hO⟩ := hu28
              have hO : okn g T q28.2 pl := hO
              have hP : va_P g.1 vcl ([] ++ pl) _ := hP
              have hD : va_D _ ([] ++ pl) := hD
              have hFc28 : frm (M_MH_sign_0 151) q21.2 q28.2 := hFc28
              clear hE
              replace hR := bnd_step hR eq28
              have hF := frm_tr hF hFc28 (fun k hk => by unfold M_MH_sign_0 at hk; unfold M_M_sign; omega)
              have hf36 : q28.2.1 148 1 = nI tp := fc_F hf25 hFc28 (by unfold M_MH_sign_0; omega)
              have hf37 : q28.2.1 148 2 = nI rs := fc_F hf26 hFc28 (by unfold M_MH_sign_0; omega)
              have hf38 : q28.2.1 148 3 = nI ks := fc_F hf27 hFc28 (by unfold M_MH_sign_0; omega)
              have hf39 : q28.2.1 148 0 = nI 0 := fc_F hf28 hFc28 (by unfold M_MH_sign_0; omega)
              have hf40 : q28.2.1 170 z21 = nI 3 := fc_F hs24 hFc28 (by unfold M_MH_sign_0; omega)
              have hf41 : q28.2.1 171 z21 = nI z22 := fc_F hz22 hFc28 (by unfold M_MH_sign_0; omega)
              have hg37 : SETS ks (q28.2.1 170) := by rw [hFc28 170 (by unfold M_MH_sign_0; omega)]; exact hg23
              have hg38 : HIDS ks (q28.2.1 171) := by rw [hFc28 171 (by unfold M_MH_sign_0; omega)]; exact hg24
              refine W.widen (k := 0) (n := 0) (by omega) (by omega) ?_
              refine mi_eqv (fun z26 ez26 => ?_)
              replace hR := bnd_step hR ez26
              refine lv_istore_n (lv' := [(3, .int z26), (0, .ref h0), (1, .int (nI z21)), (2, .int (nI z23))]) hx hb dM_sign_100 rfl hl (by decide) rfl (fun ls hl => ?_)
              refine lv_iload_n hx hb dM_sign_101 rfl (lv_at hl 0 rfl) ?_
              refine lv_if_ne (tgt := 111) hx hb dM_sign_102 (by decide) (fun h30 => ?_) (fun h30 => ?_)
              · replace hR := hR.trans (if_neg h30)
                refine lv_aload_n hx hb dM_sign_111 rfl (lv_at hl 1 rfl) ?_
                refine lv_aload_n hx hb dM_sign_112 rfl (lv_at hl 1 rfl) ?_
                refine nw_get (C := "LatticeKeysModel") (TT := T_M) (N := 14) hx hb hts (wg_ft i_M) hown hK hO k_h0 (kn := 148) (ci := 8) (fl := [(0, 0), (0, 0), (0, 0), (0, 0), (3, 149), (3, 150), (3, 151), (3, 152), (3, 161), (3, 170), (3, 171), (3, 172), (3, 184), (3, 225)]) rfl hP rfl 9 (by decide) (hts _ (wg_t kw_1535)) (fun _ h9 => h9) (cd := (3, 170)) rfl dM_sign_113 (fun v30 hv32 => ?_)
                obtain ⟨r37, rfl, kr29⟩ := (show ∃ r : Nat, v30 = .ref r ∧ T r = some 170 from hv32)
                refine lv_iload_n hx hb dM_sign_116 rfl (lv_at hl 2 rfl) ?_
                refine nw_iald hx hb hK hO kr29 (k := 170) rfl hP (by omega) (by omega) dM_sign_117 ?_
                refine mi_as hf40 ?_
                refine lv_iconst (v := nI 3) hx hb dM_sign_118 (by decide) ?_
                refine mi_isub hx hb dM_sign_119 (by omega) ?_
                refine mi_as (show nI (3 - 3) = nI 0 from rfl) ?_
                refine mp_i (cx := []) (wr := []) hP hD hS hA [] [] rfl rfl rfl (by decide) (va_runS (As := [.int (nI 0)]) (rest := [.ref h0]) F (N_MH_markSize_0 l g _ T q28.2 pl hO hU ) (va_cwS 1 hts (wg_app (wg_c kw_1918 (wg_c kw_1919 (wg_c kw_13 wg_n))) kw_1920) rfl rfl rfl (by decide +kernel) ⟨by decide, by decide⟩) (pp_S (en_ok g) hP hD hS hA hEn [] rfl rfl) rfl rfl hl.1 rfl (lv_room (Nat.le_of_ble_eq_true rfl)) dM_sign_120 ⟨by omega, by omega⟩) (fun r38 u29 H locs hu29 hP hD hS => ?_)
                obtain ⟨q29, pl⟩ := u29
                obtain ⟨⟨eq29, rfl, hFc29, ⟨x47, hx_47, hb_47⟩, hxp29, -⟩, hO⟩ := hu29
                have hO : okn g T q29.2 pl := hO
                have hP : va_P g.1 vcl ([] ++ pl) _ := hP
                have hD : va_D _ ([] ++ pl) := hD
                have hFc29 : frm (M_MH_markSize_0) q28.2 q29.2 := hFc29
                have hb_47 : x47 < 2421 := hb_47
                replace hR := bnd_step hR eq29
                have hF := frm_tr hF hFc29 (fun k hk => by unfold M_MH_markSize_0 at hk; unfold M_M_sign; omega)
                have hf42 : q29.2.1 148 1 = nI tp := fc_F hf36 hFc29 (by unfold M_MH_markSize_0; omega)
                have hf43 : q29.2.1 148 2 = nI rs := fc_F hf37 hFc29 (by unfold M_MH_markSize_0; omega)
                have hf44 : q29.2.1 148 3 = nI ks := fc_F hf38 hFc29 (by unfold M_MH_markSize_0; omega)
                have hf45 : q29.2.1 148 0 = nI 0 := fc_F hf39 hFc29 (by unfold M_MH_markSize_0; omega)
                have hf46 : q29.2.1 170 z21 = nI 3 := fc_F hf40 hFc29 (by unfold M_MH_markSize_0; omega)
                have hf47 : q29.2.1 171 z21 = nI z22 := fc_F hf41 hFc29 (by unfold M_MH_markSize_0; omega)
                have hg39 : SETS ks (q29.2.1 170) := by rw [hFc29 170 (by unfold M_MH_markSize_0; omega)]; exact hg37
                have hg40 : HIDS ks (q29.2.1 171) := by rw [hFc29 171 (by unfold M_MH_markSize_0; omega)]; exact hg38
                obtain ⟨z27, ez27, hz29, hz30⟩ := cl_of (b := 2147483648) hx_47 (by omega) (by decide)
                replace hR := bnd_step hR ez27
                refine mi_as hz29 ?_
                have hsz21 : z27 = 2420 := (nI_eq (by omega) (by omega)).mp (hz29.symm.trans hxp29)
                subst hsz21
                refine W.widen (k := 0) (n := 0) (by omega) (by omega) ?_
                refine nw_put (C := "LatticeKeysModel") (TT := T_M) (N := 14) hx hb hts (wg_ft i_M) ty_M k_M n_M hown hK hO hU k_h0 (kn := 148) (ci := 8) (fl := [(0, 0), (0, 0), (0, 0), (0, 0), (3, 149), (3, 150), (3, 151), (3, 152), (3, 161), (3, 170), (3, 171), (3, 172), (3, 184), (3, 225)]) rfl hP hD hS rfl 2 (by decide) (hts _ (wg_t kw_1528)) (fun _ h9 => h9) rfl (by decide +kernel) rfl dM_sign_123 (fun s22 pl H locs es22 hO hP hD hS => ?_)
                replace hR := bnd_step hR es22
                have hF := frm_sI hF es22 (by unfold M_M_sign; omega)
                have hf48 : s22.1 148 1 = nI tp := fc_ne hf42 es22 (by omega)
                have hf50 : s22.1 148 3 = nI ks := fc_ne hf44 es22 (by omega)
                have hf51 : s22.1 148 0 = nI 0 := fc_ne hf45 es22 (by omega)
                have hf52 : s22.1 170 z21 = nI 3 := fc_ne hf46 es22 (by omega)
                have hf53 : s22.1 171 z21 = nI z22 := fc_ne hf47 es22 (by omega)
                have hf54 : s22.1 148 2 = nI 2420 := fc_eq es22
                have hg41 : SETS ks (s22.1 170) := by rw [(ar_sI es22 (by omega))]; exact hg39
                have hg42 : HIDS ks (s22.1 171) := by rw [(ar_sI es22 (by omega))]; exact hg40
                refine lv_iconst (v := nI 0) hx hb dM_sign_126 (by decide) ?_
                refine lv_istore (lv' := [(4, .int (nI 0)), (3, .int z26), (0, .ref h0), (1, .int (nI z21)), (2, .int (nI z23))]) hx hb dM_sign_127 hl (by decide) rfl (fun ls hl => ?_)
                have lp21 : ∀ (n21 : Nat) (i21 : Nat) (s23 : Sto) (pl : va_W) (ls : Array Slot) (H : Heap) (locs : List Loc), n21 + i21 = 2420 → frm (M_M_sign) s s23 → s23.1 148 1 = nI tp → s23.1 148 3 = nI ks → s23.1 148 0 = nI 0 → s23.1 170 z21 = nI 3 → s23.1 171 z21 = nI z22 → s23.1 148 2 = nI 2420 → (SETS ks (s23.1 170)) → (HIDS ks (s23.1 171)) → F_M_sign v v2 s = F_M_sign_L0 z26 n21 i21 s23 → lv_has ls 5 [(4, .int (nI i21)), (3, .int z26), (0, .ref h0)] → okn g T s23 pl → va_P g.1 vcl ([] ++ pl) H → va_D A ([] ++ pl) → va_S A s0.heap H locs → W p l e ({ frames := 6, cells := 0, slots := 0, locals := 144 } : Room) s0 m args below meth c H locs 0 0 (MQ below (va_Qi (fun (r : Int32) (u : (Int32 × Sto) × va_W) => (u.1 = F_M_sign v v2 s ∧ r = u.1.1 ∧ frm (M_M_sign) s u.1.2 ∧ (∃ x : Nat, u.1.2.1 148 1 = nI x ∧ x ≤ 16384) ∧ (∃ x : Nat, u.1.2.1 148 2 = nI x ∧ x ≤ 8192) ∧ (∃ x : Nat, u.1.2.1 148 3 = nI x ∧ x ≤ 8) ∧ True) ∧ okn g T u.1.2 u.2) (po g.1 vcl A (fun (u : (Int32 × Sto) × va_W) => [] ++ u.2)) A) args s0 0 0 A) (F0 m 129 ls []) := by
                  intro n21
                  induction n21 with
                  | zero =>
                    intro i21 s23 pl ls H locs hm21 hF hf55 hf56 hf57 hf58 hf59 hf60 hg43 hg44 hR hl hO hP hD hS
                    refine lv_iload hx hb dM_sign_129 (lv_at hl 0 rfl) ?_
                    refine lv_aload_n hx hb dM_sign_131 rfl (lv_at hl 2 rfl) ?_
                    refine nw_get (C := "LatticeKeysModel") (TT := T_M) (N := 14) hx hb hts (wg_ft i_M) hown hK hO k_h0 (kn := 148) (ci := 8) (fl := [(0, 0), (0, 0), (0, 0), (0, 0), (3, 149), (3, 150), (3, 151), (3, 152), (3, 161), (3, 170), (3, 171), (3, 172), (3, 184), (3, 225)]) rfl hP rfl 2 (by decide) (hts _ (wg_t kw_1528)) (fun _ h9 => h9) (cd := (0, 0)) rfl dM_sign_132 (fun v31 hv33 => ?_)
                    obtain rfl := (show v31 = .int (s23.1 148 2) from hv33)
                    obtain ⟨z28, ez28, hz31, hz32⟩ := cl_of (b := 2147483648) hf60 (by omega) (by decide)
                    replace hR := bnd_step hR ez28
                    refine mi_as hz31 ?_
                    subst hz32
                    refine mi_ge (tgt := 158) hx hb dM_sign_135 (by decide) (by omega) (by omega) (fun h31 => ?_) (fun h31 => absurd h31 (by omega))
                    refine lv_aload_n hx hb dM_sign_158 rfl (lv_at hl 2 rfl) ?_
                    refine lv_iconst (v := nI 0) hx hb dM_sign_159 (by decide) ?_
                    refine nw_put (C := "LatticeKeysModel") (TT := T_M) (N := 14) hx hb hts (wg_ft i_M) ty_M k_M n_M hown hK hO hU k_h0 (kn := 148) (ci := 8) (fl := [(0, 0), (0, 0), (0, 0), (0, 0), (3, 149), (3, 150), (3, 151), (3, 152), (3, 161), (3, 170), (3, 171), (3, 172), (3, 184), (3, 225)]) rfl hP hD hS rfl 1 (by decide) (hts _ (wg_t kw_1527)) (fun _ h9 => h9) rfl (by decide +kernel) rfl dM_sign_160 (fun s24 pl H locs es23 hO hP hD hS => ?_)
                    replace hR := bnd_step hR es23
                    have hF := frm_sI hF es23 (by unfold M_M_sign; omega)
                    have hf62 : s24.1 148 3 = nI ks := fc_ne hf56 es23 (by omega)
                    have hf63 : s24.1 148 0 = nI 0 := fc_ne hf57 es23 (by omega)
                    have hf64 : s24.1 170 z21 = nI 3 := fc_ne hf58 es23 (by omega)
                    have hf65 : s24.1 171 z21 = nI z22 := fc_ne hf59 es23 (by omega)
                    have hf66 : s24.1 148 2 = nI 2420 := fc_ne hf60 es23 (by omega)
                    have hf67 : s24.1 148 1 = nI 0 := fc_eq es23
                    have hg45 : SETS ks (s24.1 170) := by rw [(ar_sI es23 (by omega))]; exact hg43
                    have hg46 : HIDS ks (s24.1 171) := by rw [(ar_sI es23 (by omega))]; exact hg44
                    refine lv_iload_n hx hb dM_sign_163 rfl (lv_at hl 1 rfl) ?_
                    exact mp_iret hx hb hr hlk hP hD hS ((z26, s24), pl) ⟨⟨hR.symm, rfl, hF, ⟨0, hf67, by omega⟩, ⟨2420, hf66, by omega⟩, ⟨ks, hf62, by omega⟩, trivial⟩, hO⟩ [] rfl rfl rfl (by omega) (by omega) dM_sign_164
                  | succ n21 ih21 =>
                    intro i21 s23 pl ls H locs hm21 hF hf68 hf69 hf70 hf71 hf72 hf73 hg43 hg44 hR hl hO hP hD hS
                    refine lv_iload hx hb dM_sign_129 (lv_at hl 0 rfl) ?_
                    refine lv_aload_n hx hb dM_sign_131 rfl (lv_at hl 2 rfl) ?_
                    refine nw_get (C := "LatticeKeysModel") (TT := T_M) (N := 14) hx hb hts (wg_ft i_M) hown hK hO k_h0 (kn := 148) (ci := 8) (fl := [(0, 0), (0, 0), (0, 0), (0, 0), (3, 149), (3, 150), (3, 151), (3, 152), (3, 161), (3, 170), (3, 171), (3, 172), (3, 184), (3, 225)]) rfl hP rfl 2 (by decide) (hts _ (wg_t kw_1528)) (fun _ h9 => h9) (cd := (0, 0)) rfl dM_sign_132 (fun v32 hv34 => ?_)
                    obtain rfl := (show v32 = .int (s23.1 148 2) from hv34)
                    obtain ⟨z29, ez29, hz33, hz34⟩ := cl_of (b := 2147483648) hf73 (by omega) (by decide)
                    replace hR := bnd_step hR ez29
                    refine mi_as hz33 ?_
                    subst hz34
                    refine mi_ge (tgt := 158) hx hb dM_sign_135 (by decide) (by omega) (by omega) (fun h32 => absurd h32 (by omega)) (fun h32 => ?_)
                    refine lv_aload_n hx hb dM_sign_138 rfl (lv_at hl 2 rfl) ?_
                    refine nw_get (C := "LatticeKeysModel") (TT := T_M) (N := 14) hx hb hts (wg_ft i_M) hown hK hO k_h0 (kn := 148) (ci := 8) (fl := [(0, 0), (0, 0), (0, 0), (0, 0), (3, 149), (3, 150), (3, 151), (3, 152), (3, 161), (3, 170), (3, 171), (3, 172), (3, 184), (3, 225)]) rfl hP rfl 5 (by decide) (hts _ (wg_t kw_1531)) (fun _ h9 => h9) (cd := (3, 150)) rfl dM_sign_139 (fun v33 hv35 => ?_)
                    obtain ⟨r39, rfl, kr30⟩ := (show ∃ r : Nat, v33 = .ref r ∧ T r = some 150 from hv35)
                    refine lv_iload hx hb dM_sign_142 (lv_at hl 0 rfl) ?_
                    refine lv_aload_n hx hb dM_sign_144 rfl (lv_at hl 2 rfl) ?_
                    refine nw_get (C := "LatticeKeysModel") (TT := T_M) (N := 14) hx hb hts (wg_ft i_M) hown hK hO k_h0 (kn := 148) (ci := 8) (fl := [(0, 0), (0, 0), (0, 0), (0, 0), (3, 149), (3, 150), (3, 151), (3, 152), (3, 161), (3, 170), (3, 171), (3, 172), (3, 184), (3, 225)]) rfl hP rfl 6 (by decide) (hts _ (wg_t kw_1532)) (fun _ h9 => h9) (cd := (3, 151)) rfl dM_sign_145 (fun v34 hv36 => ?_)
                    obtain ⟨r40, rfl, kr31⟩ := (show ∃ r : Nat, v34 = .ref r ∧ T r = some 151 from hv36)
                    refine lv_iload hx hb dM_sign_148 (lv_at hl 0 rfl) ?_
                    refine nw_bald hx hb hK hO kr31 (k := 151) rfl hP (by omega) (by omega) dM_sign_150 ?_
                    refine nw_bast hx hb hK hO hU kr30 (k := 150) rfl hP hD hS (by omega) (by omega) dM_sign_151 (fun s25 pl H locs es24 hO hP hD hS => ?_)
                    replace hR := bnd_step hR es24
                    have hF := frm_sB hF es24 (by unfold M_M_sign; omega)
                    have hf74 : s25.1 148 1 = nI tp := fc_B hf68 es24 (by omega)
                    have hf75 : s25.1 148 3 = nI ks := fc_B hf69 es24 (by omega)
                    have hf76 : s25.1 148 0 = nI 0 := fc_B hf70 es24 (by omega)
                    have hf77 : s25.1 170 z21 = nI 3 := fc_B hf71 es24 (by omega)
                    have hf78 : s25.1 171 z21 = nI z22 := fc_B hf72 es24 (by omega)
                    have hf79 : s25.1 148 2 = nI 2420 := fc_B hf73 es24 (by omega)
                    have hg47 : SETS ks (s25.1 170) := by rw [(ar_sB es24 (by omega))]; exact hg43
                    have hg48 : HIDS ks (s25.1 171) := by rw [(ar_sB es24 (by omega))]; exact hg44
                    refine mi_iinc (k := 0) (x := i21) (d := 1) (y := i21 + 1) (lv' := [(4, .int (nI (i21 + 1))), (3, .int z26), (0, .ref h0)]) hx hb dM_sign_152 hl rfl (by decide) rfl (by decide) rfl (fun ls hl => ?_)
                    refine lv_goto (tgt := 129) hx hb dM_sign_155 (by decide) ?_
                    exact ih21 (i21 + 1) s25 pl ls H locs (by omega) hF hf74 hf75 hf76 hf77 hf78 hf79 hg47 hg48 hR (lv_sub hl [0, 1, 2] rfl) hO hP hD hS
                exact lp21 2420 0 s22 pl ls _ _ (by omega) hF hf48 hf50 hf51 hf52 hf53 hf54 hg41 hg42 hR (lv_sub hl [0, 1, 2] rfl) hO hP hD hS
              · replace hR := hR.trans (if_pos h30)
                refine lv_aload_n hx hb dM_sign_105 rfl (lv_at hl 1 rfl) ?_
                refine lv_iconst (v := nI 3) hx hb dM_sign_106 (by decide) ?_
                refine mp_i (cx := []) (wr := []) hP hD hS hA [] [] rfl rfl rfl (by decide) (va_runV (As := [.int (nI 3)]) (rest := []) F (N_M_fail l g _ T q28.2 pl hO hU h0 (nI 3) tp rs ks k_h0 hf36 hf37 hf38) (cwV 1 hts (wg_app (wg_c kw_1577 (wg_c kw_1579 (wg_c ks_50 (wg_c kw_9 wg_n)))) kw_1580) rfl rfl rfl (by decide +kernel) ⟨by decide, by decide⟩) (pn_W "LatticeKeysModel" (en_ok g) (ci := 8) (kn := 148) (fl := [(0, 0), (0, 0), (0, 0), (0, 0), (3, 149), (3, 150), (3, 151), (3, 152), (3, 161), (3, 170), (3, 171), (3, 172), (3, 184), (3, 225)]) hK hO k_h0 rfl hP hD hS hA hEn [] rfl rfl rfl) rfl rfl hl.1 rfl (lv_room (Nat.le_of_ble_eq_true rfl)) dM_sign_107 ⟨by omega, by omega⟩) (fun r41 u30 H locs hu30 hP hD hS => ?_)
                obtain ⟨q30, pl⟩ := u30
                obtain ⟨⟨eq30, rfl, hFc30, ⟨x48, hx_48, hb_48⟩, ⟨x49, hx_49, hb_49⟩, ⟨x50, hx_50, hb_50⟩, -⟩, hO⟩ := hu30
                have hO : okn g T q30.2 pl := hO
                have hP : va_P g.1 vcl ([] ++ pl) _ := hP
                have hD : va_D _ ([] ++ pl) := hD
                have hFc30 : frm (M_M_fail) q28.2 q30.2 := hFc30
                have hb_48 : x48 = tp := hb_48
                have hb_49 : x49 = rs := hb_49
                have hb_50 : x50 = ks := hb_50
                replace hR := bnd_step hR eq30
                have hF := frm_tr hF hFc30 (fun k hk => by unfold M_M_fail at hk; unfold M_M_sign; omega)
                have hf80 : q30.2.1 170 z21 = nI 3 := fc_F hf40 hFc30 (by unfold M_M_fail; omega)
                have hf81 : q30.2.1 171 z21 = nI z22 := fc_F hf41 hFc30 (by unfold M_M_fail; omega)
                have hg49 : SETS ks (q30.2.1 170) := by rw [hFc30 170 (by unfold M_M_fail; omega)]; exact hg37
                have hg50 : HIDS ks (q30.2.1 171) := by rw [hFc30 171 (by unfold M_M_fail; omega)]; exact hg38
                refine W.widen (k := 0) (n := 0) (by omega) (by omega) ?_
                exact mp_iret hx hb hr hlk hP hD hS ((q30.1, q30.2), pl) ⟨⟨hR.symm, rfl, hF, ⟨x48, hx_48, by omega⟩, ⟨x49, hx_49, by omega⟩, ⟨x50, hx_50, by omega⟩, trivial⟩, hO⟩ [] rfl rfl rfl (by omega) (by omega) dM_sign_110
            · replace hR := hR.trans (if_neg (Nat.not_le.mpr h29))
              replace hE := iteP_neg (Nat.not_le.mpr h29) hE
              refine lv_aload_n hx hb dM_sign_60 rfl (lv_at hl 0 rfl) ?_
              refine lv_iconst (v := nI 2) hx hb dM_sign_61 (by decide) ?_
              refine mp_i (cx := []) (wr := []) hP hD hS hA [] [] rfl rfl rfl (by decide) (va_runV (As := [.int (nI 2)]) (rest := []) F (N_M_fail l g _ T q21.2 pl hO hU h0 (nI 2) tp rs ks k_h0 hf25 hf26 hf27) (cwV 1 hts (wg_app (wg_c kw_1577 (wg_c kw_1579 (wg_c ks_50 (wg_c kw_9 wg_n)))) kw_1580) rfl rfl rfl (by decide +kernel) ⟨by decide, by decide⟩) (pn_W "LatticeKeysModel" (en_ok g) (ci := 8) (kn := 148) (fl := [(0, 0), (0, 0), (0, 0), (0, 0), (3, 149), (3, 150), (3, 151), (3, 152), (3, 161), (3, 170), (3, 171), (3, 172), (3, 184), (3, 225)]) hK hO k_h0 rfl hP hD hS hA hEn [] rfl rfl rfl) rfl rfl hl.1 rfl (lv_room (Nat.le_of_ble_eq_true rfl)) dM_sign_62 ⟨by omega, by omega⟩) (fun r42 u31 H locs hu31 hP hD hS => ?_)
              obtain ⟨q31, pl⟩ := u31
              obtain ⟨⟨eq31, rfl, hFc31, ⟨x52, hx_52, hb_52⟩, ⟨x53, hx_53, hb_53⟩, ⟨x54, hx_54, hb_54⟩, -⟩, hO⟩ := hu31
              have hO : okn g T q31.2 pl := hO
              have hP : va_P g.1 vcl ([] ++ pl) _ := hP
              have hD : va_D _ ([] ++ pl) := hD
              have hFc31 : frm (M_M_fail) q21.2 q31.2 := hFc31
              have hb_52 : x52 = tp := hb_52
              have hb_53 : x53 = rs := hb_53
              have hb_54 : x54 = ks := hb_54
              replace hR := bnd_step hR eq31
              replace hE := bndP_step hE eq31
              have hF := frm_tr hF hFc31 (fun k hk => by unfold M_M_fail at hk; unfold M_M_sign; omega)
              have hf82 : q31.2.1 170 z21 = nI 3 := fc_F hs24 hFc31 (by unfold M_M_fail; omega)
              have hf83 : q31.2.1 171 z21 = nI z22 := fc_F hz22 hFc31 (by unfold M_M_fail; omega)
              have hg51 : SETS ks (q31.2.1 170) := by rw [hFc31 170 (by unfold M_M_fail; omega)]; exact hg23
              have hg52 : HIDS ks (q31.2.1 171) := by rw [hFc31 171 (by unfold M_M_fail; omega)]; exact hg24
              refine W.widen (k := 0) (n := 0) (by omega) (by omega) ?_
              exact mp_iret hx hb hr hlk hP hD hS ((q31.1, q31.2), pl) ⟨⟨hR.symm, rfl, hF, ⟨x52, hx_52, by omega⟩, ⟨x53, hx_53, by omega⟩, ⟨x54, hx_54, by omega⟩, trivial⟩, hO⟩ [] rfl rfl rfl (by omega) (by omega) dM_sign_65
      · replace hR := hR.trans (if_pos h26)
        replace hE := iteP_pos h26 hE
        refine lv_aload_n hx hb dM_sign_32 rfl (lv_at hl 0 rfl) ?_
        refine lv_iconst (v := nI 1) hx hb dM_sign_33 (by decide) ?_
        refine mp_i (cx := []) (wr := []) hP hD hS hA [] [] rfl rfl rfl (by decide) (va_runV (As := [.int (nI 1)]) (rest := []) F (N_M_fail l g _ T q21.2 pl hO hU h0 (nI 1) tp rs ks k_h0 hf25 hf26 hf27) (cwV 1 hts (wg_app (wg_c kw_1577 (wg_c kw_1579 (wg_c ks_50 (wg_c kw_9 wg_n)))) kw_1580) rfl rfl rfl (by decide +kernel) ⟨by decide, by decide⟩) (pn_W "LatticeKeysModel" (en_ok g) (ci := 8) (kn := 148) (fl := [(0, 0), (0, 0), (0, 0), (0, 0), (3, 149), (3, 150), (3, 151), (3, 152), (3, 161), (3, 170), (3, 171), (3, 172), (3, 184), (3, 225)]) hK hO k_h0 rfl hP hD hS hA hEn [] rfl rfl rfl) rfl rfl hl.1 rfl (lv_room (Nat.le_of_ble_eq_true rfl)) dM_sign_34 ⟨by omega, by omega⟩) (fun r43 u32 H locs hu32 hP hD hS => ?_)
        obtain ⟨q32, pl⟩ := u32
        obtain ⟨⟨eq32, rfl, hFc32, ⟨x56, hx_56, hb_56⟩, ⟨x57, hx_57, hb_57⟩, ⟨x58, hx_58, hb_58⟩, -⟩, hO⟩ := hu32
        have hO : okn g T q32.2 pl := hO
        have hP : va_P g.1 vcl ([] ++ pl) _ := hP
        have hD : va_D _ ([] ++ pl) := hD
        have hFc32 : frm (M_M_fail) q21.2 q32.2 := hFc32
        have hb_56 : x56 = tp := hb_56
        have hb_57 : x57 = rs := hb_57
        have hb_58 : x58 = ks := hb_58
        replace hR := bnd_step hR eq32
        replace hE := bndP_step hE eq32
        have hF := frm_tr hF hFc32 (fun k hk => by unfold M_M_fail at hk; unfold M_M_sign; omega)
        have hf84 : q32.2.1 170 z21 = nI 3 := fc_F hs24 hFc32 (by unfold M_M_fail; omega)
        have hf85 : q32.2.1 171 z21 = nI z22 := fc_F hz22 hFc32 (by unfold M_M_fail; omega)
        have hg53 : SETS ks (q32.2.1 170) := by rw [hFc32 170 (by unfold M_M_fail; omega)]; exact hg23
        have hg54 : HIDS ks (q32.2.1 171) := by rw [hFc32 171 (by unfold M_M_fail; omega)]; exact hg24
        refine W.widen (k := 0) (n := 0) (by omega) (by omega) ?_
        exact mp_iret hx hb hr hlk hP hD hS ((q32.1, q32.2), pl) ⟨⟨hR.symm, rfl, hF, ⟨x56, hx_56, by omega⟩, ⟨x57, hx_57, by omega⟩, ⟨x58, hx_58, by omega⟩, trivial⟩, hO⟩ [] rfl rfl rfl (by omega) (by omega) dM_sign_37
    replace hR := hR.trans (if_neg hs24)
    replace hE := iteP_neg hs24 hE
    by_cases hs25 : (q21.2.1 170 z21) = nI 4
    · replace hR := hR.trans (if_pos hs25)
      replace hE := iteP_pos hs25 hE
      refine mi_as hs25 ?_
      refine lv_iconst (v := nI 3) hx hb dM_sign_19 (by decide) ?_
      refine mi_lt (tgt := 32) hx hb dM_sign_20 (by decide) (by omega) (by omega) (fun h33 => absurd h33 (by omega)) (fun h33 => ?_)
      refine lv_aload_n hx hb dM_sign_23 rfl (lv_at hl 0 rfl) ?_
      refine nw_get (C := "LatticeKeysModel") (TT := T_M) (N := 14) hx hb hts (wg_ft i_M) hown hK hO k_h0 (kn := 148) (ci := 8) (fl := [(0, 0), (0, 0), (0, 0), (0, 0), (3, 149), (3, 150), (3, 151), (3, 152), (3, 161), (3, 170), (3, 171), (3, 172), (3, 184), (3, 225)]) rfl hP rfl 10 (by decide) (hts _ (wg_t kw_1536)) (fun _ h9 => h9) (cd := (3, 171)) rfl dM_sign_24 (fun v35 hv37 => ?_)
      obtain ⟨r44, rfl, kr32⟩ := (show ∃ r : Nat, v35 = .ref r ∧ T r = some 171 from hv37)
      refine lv_iload_n hx hb dM_sign_27 rfl (lv_at hl 1 rfl) ?_
      refine nw_iald hx hb hK hO kr32 (k := 171) rfl hP (by omega) (by omega) dM_sign_28 ?_
      obtain ⟨c22, hc22, hb22⟩ := hg24 z21 (by omega)
      obtain ⟨z30, ez30, hz35, hz36⟩ := cl_of (b := 2147483648) hc22 (by omega) (by decide)
      replace hR := bnd_step hR ez30
      replace hE := bndP_step hE ez30
      refine mi_as hz35 ?_
      refine lv_if_ne (tgt := 38) hx hb dM_sign_29 (by decide) (fun h34 => ?_) (fun h34 => ?_)
      · replace hR := hR.trans (if_neg h34)
        replace hE := iteP_neg h34 hE
        refine lv_iload_n hx hb dM_sign_38 rfl (lv_at hl 2 rfl) ?_
        refine lv_if_lt (tgt := 60) hx hb dM_sign_39 (by decide) (fun h35 => ?_) (fun h35 => ?_)
        · replace hR := hR.trans (if_pos h35)
          replace hE := iteP_pos h35 hE
          refine lv_aload_n hx hb dM_sign_60 rfl (lv_at hl 0 rfl) ?_
          refine lv_iconst (v := nI 2) hx hb dM_sign_61 (by decide) ?_
          refine mp_i (cx := []) (wr := []) hP hD hS hA [] [] rfl rfl rfl (by decide) (va_runV (As := [.int (nI 2)]) (rest := []) F (N_M_fail l g _ T q21.2 pl hO hU h0 (nI 2) tp rs ks k_h0 hf25 hf26 hf27) (cwV 1 hts (wg_app (wg_c kw_1577 (wg_c kw_1579 (wg_c ks_50 (wg_c kw_9 wg_n)))) kw_1580) rfl rfl rfl (by decide +kernel) ⟨by decide, by decide⟩) (pn_W "LatticeKeysModel" (en_ok g) (ci := 8) (kn := 148) (fl := [(0, 0), (0, 0), (0, 0), (0, 0), (3, 149), (3, 150), (3, 151), (3, 152), (3, 161), (3, 170), (3, 171), (3, 172), (3, 184), (3, 225)]) hK hO k_h0 rfl hP hD hS hA hEn [] rfl rfl rfl) rfl rfl hl.1 rfl (lv_room (Nat.le_of_ble_eq_true rfl)) dM_sign_62 ⟨by omega, by omega⟩) (fun r45 u33 H locs hu33 hP hD hS => ?_)
          obtain ⟨q33, pl⟩ := u33
          obtain ⟨⟨eq33, rfl, hFc33, ⟨x60, hx_60, hb_60⟩, ⟨x61, hx_61, hb_61⟩, ⟨x62, hx_62, hb_62⟩, -⟩, hO⟩ := hu33
          have hO : okn g T q33.2 pl := hO
          have hP : va_P g.1 vcl ([] ++ pl) _ := hP
          have hD : va_D _ ([] ++ pl) := hD
          have hFc33 : frm (M_M_fail) q21.2 q33.2 := hFc33
          have hb_60 : x60 = tp := hb_60
          have hb_61 : x61 = rs := hb_61
          have hb_62 : x62 = ks := hb_62
          replace hR := bnd_step hR eq33
          replace hE := bndP_step hE eq33
          have hF := frm_tr hF hFc33 (fun k hk => by unfold M_M_fail at hk; unfold M_M_sign; omega)
          have hf86 : q33.2.1 170 z21 = nI 4 := fc_F hs25 hFc33 (by unfold M_M_fail; omega)
          have hf87 : q33.2.1 171 z21 = nI z30 := fc_F hz35 hFc33 (by unfold M_M_fail; omega)
          have hg55 : SETS ks (q33.2.1 170) := by rw [hFc33 170 (by unfold M_M_fail; omega)]; exact hg23
          have hg56 : HIDS ks (q33.2.1 171) := by rw [hFc33 171 (by unfold M_M_fail; omega)]; exact hg24
          refine W.widen (k := 0) (n := 0) (by omega) (by omega) ?_
          exact mp_iret hx hb hr hlk hP hD hS ((q33.1, q33.2), pl) ⟨⟨hR.symm, rfl, hF, ⟨x60, hx_60, by omega⟩, ⟨x61, hx_61, by omega⟩, ⟨x62, hx_62, by omega⟩, trivial⟩, hO⟩ [] rfl rfl rfl (by omega) (by omega) dM_sign_65
        · replace hR := hR.trans (if_neg h35)
          replace hE := iteP_neg h35 hE
          refine lv_iload_n hx hb dM_sign_42 rfl (lv_at hl 2 rfl) ?_
          refine lv_sipush (v := nI 255) hx hb dM_sign_43 (by decide) ?_
          refine lv_icmp_gt (tgt := 60) hx hb dM_sign_46 (by decide) (fun h36 => ?_) (fun h36 => ?_)
          · replace hR := hR.trans (if_pos h36)
            replace hE := iteP_pos h36 hE
            refine lv_aload_n hx hb dM_sign_60 rfl (lv_at hl 0 rfl) ?_
            refine lv_iconst (v := nI 2) hx hb dM_sign_61 (by decide) ?_
            refine mp_i (cx := []) (wr := []) hP hD hS hA [] [] rfl rfl rfl (by decide) (va_runV (As := [.int (nI 2)]) (rest := []) F (N_M_fail l g _ T q21.2 pl hO hU h0 (nI 2) tp rs ks k_h0 hf25 hf26 hf27) (cwV 1 hts (wg_app (wg_c kw_1577 (wg_c kw_1579 (wg_c ks_50 (wg_c kw_9 wg_n)))) kw_1580) rfl rfl rfl (by decide +kernel) ⟨by decide, by decide⟩) (pn_W "LatticeKeysModel" (en_ok g) (ci := 8) (kn := 148) (fl := [(0, 0), (0, 0), (0, 0), (0, 0), (3, 149), (3, 150), (3, 151), (3, 152), (3, 161), (3, 170), (3, 171), (3, 172), (3, 184), (3, 225)]) hK hO k_h0 rfl hP hD hS hA hEn [] rfl rfl rfl) rfl rfl hl.1 rfl (lv_room (Nat.le_of_ble_eq_true rfl)) dM_sign_62 ⟨by omega, by omega⟩) (fun r46 u34 H locs hu34 hP hD hS => ?_)
            obtain ⟨q34, pl⟩ := u34
            obtain ⟨⟨eq34, rfl, hFc34, ⟨x64, hx_64, hb_64⟩, ⟨x65, hx_65, hb_65⟩, ⟨x66, hx_66, hb_66⟩, -⟩, hO⟩ := hu34
            have hO : okn g T q34.2 pl := hO
            have hP : va_P g.1 vcl ([] ++ pl) _ := hP
            have hD : va_D _ ([] ++ pl) := hD
            have hFc34 : frm (M_M_fail) q21.2 q34.2 := hFc34
            have hb_64 : x64 = tp := hb_64
            have hb_65 : x65 = rs := hb_65
            have hb_66 : x66 = ks := hb_66
            replace hR := bnd_step hR eq34
            replace hE := bndP_step hE eq34
            have hF := frm_tr hF hFc34 (fun k hk => by unfold M_M_fail at hk; unfold M_M_sign; omega)
            have hf88 : q34.2.1 170 z21 = nI 4 := fc_F hs25 hFc34 (by unfold M_M_fail; omega)
            have hf89 : q34.2.1 171 z21 = nI z30 := fc_F hz35 hFc34 (by unfold M_M_fail; omega)
            have hg57 : SETS ks (q34.2.1 170) := by rw [hFc34 170 (by unfold M_M_fail; omega)]; exact hg23
            have hg58 : HIDS ks (q34.2.1 171) := by rw [hFc34 171 (by unfold M_M_fail; omega)]; exact hg24
            refine W.widen (k := 0) (n := 0) (by omega) (by omega) ?_
            exact mp_iret hx hb hr hlk hP hD hS ((q34.1, q34.2), pl) ⟨⟨hR.symm, rfl, hF, ⟨x64, hx_64, by omega⟩, ⟨x65, hx_65, by omega⟩, ⟨x66, hx_66, by omega⟩, trivial⟩, hO⟩ [] rfl rfl rfl (by omega) (by omega) dM_sign_65
          · replace hR := hR.trans (if_neg h36)
            replace hE := iteP_neg h36 hE
            obtain ⟨z31, hz37, hv38⟩ := i32_lex h35 (by omega) h36
            have ez31 : z31 = v2.toNatClampNeg := by rw [hv38]; exact (nI_clamp (by omega)).symm
            replace hR := bnd_step hR ez31
            replace hE := bndP_step hE ez31
            rw [hv38] at hl
            refine lv_aload_n hx hb dM_sign_49 rfl (lv_at hl 0 rfl) ?_
            refine nw_get (C := "LatticeKeysModel") (TT := T_M) (N := 14) hx hb hts (wg_ft i_M) hown hK hO k_h0 (kn := 148) (ci := 8) (fl := [(0, 0), (0, 0), (0, 0), (0, 0), (3, 149), (3, 150), (3, 151), (3, 152), (3, 161), (3, 170), (3, 171), (3, 172), (3, 184), (3, 225)]) rfl hP rfl 1 (by decide) (hts _ (wg_t kw_1527)) (fun _ h9 => h9) (cd := (0, 0)) rfl dM_sign_50 (fun v36 hv39 => ?_)
            obtain rfl := (show v36 = .int (q21.2.1 148 1) from hv39)
            obtain ⟨z32, ez32, hz38, hz39⟩ := cl_of (b := 2147483648) hf25 (by omega) (by decide)
            replace hR := bnd_step hR ez32
            replace hE := bndP_step hE ez32
            refine mi_as hz38 ?_
            refine lv_bipush (v := nI 32) hx hb dM_sign_53 (by decide) ?_
            refine lv_iload_n hx hb dM_sign_55 rfl (lv_at hl 2 rfl) ?_
            refine mi_iadd hx hb dM_sign_56 ?_
            refine mi_ge (tgt := 66) hx hb dM_sign_57 (by decide) (by omega) (by omega) (fun h37 => ?_) (fun h37 => ?_)
            · replace hR := hR.trans (if_pos h37)
              replace hE := iteP_pos h37 hE
              refine lv_aload_n hx hb dM_sign_66 rfl (lv_at hl 0 rfl) ?_
              refine nw_get (C := "LatticeKeysModel") (TT := T_M) (N := 14) hx hb hts (wg_ft i_M) hown hK hO k_h0 (kn := 148) (ci := 8) (fl := [(0, 0), (0, 0), (0, 0), (0, 0), (3, 149), (3, 150), (3, 151), (3, 152), (3, 161), (3, 170), (3, 171), (3, 172), (3, 184), (3, 225)]) rfl hP rfl 13 (by decide) (hts _ (wg_t kw_1539)) (fun _ h9 => h9) (cd := (3, 225)) rfl dM_sign_67 (fun v37 hv40 => ?_)
              obtain ⟨r47, rfl, kr33⟩ := (show ∃ r : Nat, v37 = .ref r ∧ T r = some 225 from hv40)
              refine lv_aload_n hx hb dM_sign_70 rfl (lv_at hl 0 rfl) ?_
              refine nw_get (C := "LatticeKeysModel") (TT := T_M) (N := 14) hx hb hts (wg_ft i_M) hown hK hO k_h0 (kn := 148) (ci := 8) (fl := [(0, 0), (0, 0), (0, 0), (0, 0), (3, 149), (3, 150), (3, 151), (3, 152), (3, 161), (3, 170), (3, 171), (3, 172), (3, 184), (3, 225)]) rfl hP rfl 9 (by decide) (hts _ (wg_t kw_1535)) (fun _ h9 => h9) (cd := (3, 170)) rfl dM_sign_71 (fun v38 hv41 => ?_)
              obtain ⟨r48, rfl, kr34⟩ := (show ∃ r : Nat, v38 = .ref r ∧ T r = some 170 from hv41)
              refine lv_iload_n hx hb dM_sign_74 rfl (lv_at hl 1 rfl) ?_
              refine nw_iald hx hb hK hO kr34 (k := 170) rfl hP (by omega) (by omega) dM_sign_75 ?_
              refine mi_as hs25 ?_
              refine lv_iconst (v := nI 3) hx hb dM_sign_76 (by decide) ?_
              refine mi_isub hx hb dM_sign_77 (by omega) ?_
              refine mi_as (show nI (4 - 3) = nI 1 from rfl) ?_
              refine lv_aload_n hx hb dM_sign_78 rfl (lv_at hl 0 rfl) ?_
              refine nw_get (C := "LatticeKeysModel") (TT := T_M) (N := 14) hx hb hts (wg_ft i_M) hown hK hO k_h0 (kn := 148) (ci := 8) (fl := [(0, 0), (0, 0), (0, 0), (0, 0), (3, 149), (3, 150), (3, 151), (3, 152), (3, 161), (3, 170), (3, 171), (3, 172), (3, 184), (3, 225)]) rfl hP rfl 8 (by decide) (hts _ (wg_t kw_1534)) (fun _ h9 => h9) (cd := (3, 161)) rfl dM_sign_79 (fun v39 hv42 => ?_)
              obtain ⟨r49, rfl, kr35⟩ := (show ∃ r : Nat, v39 = .ref r ∧ T r = some 161 from hv42)
              refine lv_iload_n hx hb dM_sign_82 rfl (lv_at hl 1 rfl) ?_
              refine nw_aald4 hx hb hK hO kr35 (k := 161) (b := 162) rfl hP (by omega) (by omega) dM_sign_83 (fun r50 kr36 => ?_)
              have hn22 : nsp (162 + z21) = (1, 4896, []) := rows_okb 162 8 4896 (by decide) _ (by omega)
              refine lv_aload_n hx hb dM_sign_84 rfl (lv_at hl 0 rfl) ?_
              refine nw_get (C := "LatticeKeysModel") (TT := T_M) (N := 14) hx hb hts (wg_ft i_M) hown hK hO k_h0 (kn := 148) (ci := 8) (fl := [(0, 0), (0, 0), (0, 0), (0, 0), (3, 149), (3, 150), (3, 151), (3, 152), (3, 161), (3, 170), (3, 171), (3, 172), (3, 184), (3, 225)]) rfl hP rfl 4 (by decide) (hts _ (wg_t kw_1530)) (fun _ h9 => h9) (cd := (3, 149)) rfl dM_sign_85 (fun v40 hv43 => ?_)
              obtain ⟨r51, rfl, kr37⟩ := (show ∃ r : Nat, v40 = .ref r ∧ T r = some 149 from hv43)
              refine lv_iload_n hx hb dM_sign_88 rfl (lv_at hl 2 rfl) ?_
              refine lv_aload_n hx hb dM_sign_89 rfl (lv_at hl 0 rfl) ?_
              refine nw_get (C := "LatticeKeysModel") (TT := T_M) (N := 14) hx hb hts (wg_ft i_M) hown hK hO k_h0 (kn := 148) (ci := 8) (fl := [(0, 0), (0, 0), (0, 0), (0, 0), (3, 149), (3, 150), (3, 151), (3, 152), (3, 161), (3, 170), (3, 171), (3, 172), (3, 184), (3, 225)]) rfl hP rfl 1 (by decide) (hts _ (wg_t kw_1527)) (fun _ h9 => h9) (cd := (0, 0)) rfl dM_sign_90 (fun v41 hv44 => ?_)
              obtain rfl := (show v41 = .int (q21.2.1 148 1) from hv44)
              obtain ⟨z33, ez33, hz40, hz41⟩ := cl_of (b := 2147483648) hf25 (by omega) (by decide)
              replace hR := bnd_step hR ez33
              replace hE := bndP_step hE ez33
              refine mi_as hz40 ?_
              refine lv_aload_n hx hb dM_sign_93 rfl (lv_at hl 0 rfl) ?_
              refine nw_get (C := "LatticeKeysModel") (TT := T_M) (N := 14) hx hb hts (wg_ft i_M) hown hK hO k_h0 (kn := 148) (ci := 8) (fl := [(0, 0), (0, 0), (0, 0), (0, 0), (3, 149), (3, 150), (3, 151), (3, 152), (3, 161), (3, 170), (3, 171), (3, 172), (3, 184), (3, 225)]) rfl hP rfl 6 (by decide) (hts _ (wg_t kw_1532)) (fun _ h9 => h9) (cd := (3, 151)) rfl dM_sign_94 (fun v42 hv45 => ?_)
              obtain ⟨r52, rfl, kr38⟩ := (show ∃ r : Nat, v42 = .ref r ∧ T r = some 151 from hv45)
              refine mp_i (cx := []) (wr := []) hP hD hS hA [] [] rfl rfl rfl (by decide) (va_runV (As := [.int (nI 1), .ref r50, .ref r51, .int (nI z31), .int (nI z33), .ref r52]) (rest := []) F (N_MH_sign_1 l g _ T q21.2 pl hO hU r47 r50 r51 r52 (162 + z21) 149 16384 (nI z31) z33 151 kr33 kr36 hn22 kr37 rfl kr38 rfl (by omega) (by omega) (by omega) hE.1) (cwV 6 hts (wg_app (wg_c kw_1856 (wg_c kw_1857 (wg_c kw_1858 (wg_c kw_13 wg_n)))) kw_1859) rfl rfl rfl (by decide +kernel) ⟨by decide, by decide⟩) (pn_W "LatticeKeysModel$Hands" (en_ok g) (ci := 12) (kn := 225) (fl := [(3, 172), (3, 181), (3, 226), (3, 291), (3, 299), (3, 308), (3, 317), (3, 326), (3, 334), (3, 342), (3, 350), (3, 359), (3, 368), (3, 369), (3, 370), (3, 371), (3, 372), (3, 373), (3, 374), (3, 375), (3, 376), (3, 377), (3, 378), (0, 0), (0, 0), (0, 0), (0, 0), (0, 0), (0, 0), (0, 0), (0, 0)]) hK hO kr33 rfl hP hD hS hA hEn [] rfl rfl rfl) rfl rfl hl.1 rfl (lv_room (Nat.le_of_ble_eq_true rfl)) dM_sign_97 ⟨by omega, by omega⟩) (fun r53 u35 H locs hu35 hP hD hS => ?_)
              obtain ⟨q35, pl⟩ := u35
              obtain ⟨⟨eq35, rfl, hFc35, -⟩, hO⟩ := hu35
              have hO : okn g T q35.2 pl := hO
              have hP : va_P g.1 vcl ([] ++ pl) _ := hP
              have hD : va_D _ ([] ++ pl) := hD
              have hFc35 : frm (M_MH_sign_1 151) q21.2 q35.2 := hFc35
              clear hE
              replace hR := bnd_step hR eq35
              have hF := frm_tr hF hFc35 (fun k hk => by unfold M_MH_sign_1 at hk; unfold M_M_sign; omega)
              have hf90 : q35.2.1 148 1 = nI tp := fc_F hf25 hFc35 (by unfold M_MH_sign_1; omega)
              have hf91 : q35.2.1 148 2 = nI rs := fc_F hf26 hFc35 (by unfold M_MH_sign_1; omega)
              have hf92 : q35.2.1 148 3 = nI ks := fc_F hf27 hFc35 (by unfold M_MH_sign_1; omega)
              have hf93 : q35.2.1 148 0 = nI 0 := fc_F hf28 hFc35 (by unfold M_MH_sign_1; omega)
              have hf94 : q35.2.1 170 z21 = nI 4 := fc_F hs25 hFc35 (by unfold M_MH_sign_1; omega)
              have hf95 : q35.2.1 171 z21 = nI z30 := fc_F hz35 hFc35 (by unfold M_MH_sign_1; omega)
              have hg59 : SETS ks (q35.2.1 170) := by rw [hFc35 170 (by unfold M_MH_sign_1; omega)]; exact hg23
              have hg60 : HIDS ks (q35.2.1 171) := by rw [hFc35 171 (by unfold M_MH_sign_1; omega)]; exact hg24
              refine W.widen (k := 0) (n := 0) (by omega) (by omega) ?_
              refine mi_eqv (fun z34 ez34 => ?_)
              replace hR := bnd_step hR ez34
              refine lv_istore_n (lv' := [(3, .int z34), (0, .ref h0), (1, .int (nI z21)), (2, .int (nI z31))]) hx hb dM_sign_100 rfl hl (by decide) rfl (fun ls hl => ?_)
              refine lv_iload_n hx hb dM_sign_101 rfl (lv_at hl 0 rfl) ?_
              refine lv_if_ne (tgt := 111) hx hb dM_sign_102 (by decide) (fun h38 => ?_) (fun h38 => ?_)
              · replace hR := hR.trans (if_neg h38)
                refine lv_aload_n hx hb dM_sign_111 rfl (lv_at hl 1 rfl) ?_
                refine lv_aload_n hx hb dM_sign_112 rfl (lv_at hl 1 rfl) ?_
                refine nw_get (C := "LatticeKeysModel") (TT := T_M) (N := 14) hx hb hts (wg_ft i_M) hown hK hO k_h0 (kn := 148) (ci := 8) (fl := [(0, 0), (0, 0), (0, 0), (0, 0), (3, 149), (3, 150), (3, 151), (3, 152), (3, 161), (3, 170), (3, 171), (3, 172), (3, 184), (3, 225)]) rfl hP rfl 9 (by decide) (hts _ (wg_t kw_1535)) (fun _ h9 => h9) (cd := (3, 170)) rfl dM_sign_113 (fun v43 hv46 => ?_)
                obtain ⟨r54, rfl, kr39⟩ := (show ∃ r : Nat, v43 = .ref r ∧ T r = some 170 from hv46)
                refine lv_iload_n hx hb dM_sign_116 rfl (lv_at hl 2 rfl) ?_
                refine nw_iald hx hb hK hO kr39 (k := 170) rfl hP (by omega) (by omega) dM_sign_117 ?_
                refine mi_as hf94 ?_
                refine lv_iconst (v := nI 3) hx hb dM_sign_118 (by decide) ?_
                refine mi_isub hx hb dM_sign_119 (by omega) ?_
                refine mi_as (show nI (4 - 3) = nI 1 from rfl) ?_
                refine mp_i (cx := []) (wr := []) hP hD hS hA [] [] rfl rfl rfl (by decide) (va_runS (As := [.int (nI 1)]) (rest := [.ref h0]) F (N_MH_markSize_1 l g _ T q35.2 pl hO hU ) (va_cwS 1 hts (wg_app (wg_c kw_1918 (wg_c kw_1919 (wg_c kw_13 wg_n))) kw_1920) rfl rfl rfl (by decide +kernel) ⟨by decide, by decide⟩) (pp_S (en_ok g) hP hD hS hA hEn [] rfl rfl) rfl rfl hl.1 rfl (lv_room (Nat.le_of_ble_eq_true rfl)) dM_sign_120 ⟨by omega, by omega⟩) (fun r55 u36 H locs hu36 hP hD hS => ?_)
                obtain ⟨q36, pl⟩ := u36
                obtain ⟨⟨eq36, rfl, hFc36, ⟨x69, hx_69, hb_69⟩, hxp36, -⟩, hO⟩ := hu36
                have hO : okn g T q36.2 pl := hO
                have hP : va_P g.1 vcl ([] ++ pl) _ := hP
                have hD : va_D _ ([] ++ pl) := hD
                have hFc36 : frm (M_MH_markSize_1) q35.2 q36.2 := hFc36
                have hb_69 : x69 < 3310 := hb_69
                replace hR := bnd_step hR eq36
                have hF := frm_tr hF hFc36 (fun k hk => by unfold M_MH_markSize_1 at hk; unfold M_M_sign; omega)
                have hf96 : q36.2.1 148 1 = nI tp := fc_F hf90 hFc36 (by unfold M_MH_markSize_1; omega)
                have hf97 : q36.2.1 148 2 = nI rs := fc_F hf91 hFc36 (by unfold M_MH_markSize_1; omega)
                have hf98 : q36.2.1 148 3 = nI ks := fc_F hf92 hFc36 (by unfold M_MH_markSize_1; omega)
                have hf99 : q36.2.1 148 0 = nI 0 := fc_F hf93 hFc36 (by unfold M_MH_markSize_1; omega)
                have hf100 : q36.2.1 170 z21 = nI 4 := fc_F hf94 hFc36 (by unfold M_MH_markSize_1; omega)
                have hf101 : q36.2.1 171 z21 = nI z30 := fc_F hf95 hFc36 (by unfold M_MH_markSize_1; omega)
                have hg61 : SETS ks (q36.2.1 170) := by rw [hFc36 170 (by unfold M_MH_markSize_1; omega)]; exact hg59
                have hg62 : HIDS ks (q36.2.1 171) := by rw [hFc36 171 (by unfold M_MH_markSize_1; omega)]; exact hg60
                obtain ⟨z35, ez35, hz42, hz43⟩ := cl_of (b := 2147483648) hx_69 (by omega) (by decide)
                replace hR := bnd_step hR ez35
                refine mi_as hz42 ?_
                have hsz22 : z35 = 3309 := (nI_eq (by omega) (by omega)).mp (hz42.symm.trans hxp36)
                subst hsz22
                refine W.widen (k := 0) (n := 0) (by omega) (by omega) ?_
                refine nw_put (C := "LatticeKeysModel") (TT := T_M) (N := 14) hx hb hts (wg_ft i_M) ty_M k_M n_M hown hK hO hU k_h0 (kn := 148) (ci := 8) (fl := [(0, 0), (0, 0), (0, 0), (0, 0), (3, 149), (3, 150), (3, 151), (3, 152), (3, 161), (3, 170), (3, 171), (3, 172), (3, 184), (3, 225)]) rfl hP hD hS rfl 2 (by decide) (hts _ (wg_t kw_1528)) (fun _ h9 => h9) rfl (by decide +kernel) rfl dM_sign_123 (fun s26 pl H locs es25 hO hP hD hS => ?_)
                replace hR := bnd_step hR es25
                have hF := frm_sI hF es25 (by unfold M_M_sign; omega)
                have hf102 : s26.1 148 1 = nI tp := fc_ne hf96 es25 (by omega)
                have hf104 : s26.1 148 3 = nI ks := fc_ne hf98 es25 (by omega)
                have hf105 : s26.1 148 0 = nI 0 := fc_ne hf99 es25 (by omega)
                have hf106 : s26.1 170 z21 = nI 4 := fc_ne hf100 es25 (by omega)
                have hf107 : s26.1 171 z21 = nI z30 := fc_ne hf101 es25 (by omega)
                have hf108 : s26.1 148 2 = nI 3309 := fc_eq es25
                have hg63 : SETS ks (s26.1 170) := by rw [(ar_sI es25 (by omega))]; exact hg61
                have hg64 : HIDS ks (s26.1 171) := by rw [(ar_sI es25 (by omega))]; exact hg62
                refine lv_iconst (v := nI 0) hx hb dM_sign_126 (by decide) ?_
                refine lv_istore (lv' := [(4, .int (nI 0)), (3, .int z34), (0, .ref h0), (1, .int (nI z21)), (2, .int (nI z31))]) hx hb dM_sign_127 hl (by decide) rfl (fun ls hl => ?_)
                have lp22 : ∀ (n22 : Nat) (i22 : Nat) (s27 : Sto) (pl : va_W) (ls : Array Slot) (H : Heap) (locs : List Loc), n22 + i22 = 3309 → frm (M_M_sign) s s27 → s27.1 148 1 = nI tp → s27.1 148 3 = nI ks → s27.1 148 0 = nI 0 → s27.1 170 z21 = nI 4 → s27.1 171 z21 = nI z30 → s27.1 148 2 = nI 3309 → (SETS ks (s27.1 170)) → (HIDS ks (s27.1 171)) → F_M_sign v v2 s = F_M_sign_L1 z34 n22 i22 s27 → lv_has ls 5 [(4, .int (nI i22)), (3, .int z34), (0, .ref h0)] → okn g T s27 pl → va_P g.1 vcl ([] ++ pl) H → va_D A ([] ++ pl) → va_S A s0.heap H locs → W p l e ({ frames := 6, cells := 0, slots := 0, locals := 144 } : Room) s0 m args below meth c H locs 0 0 (MQ below (va_Qi (fun (r : Int32) (u : (Int32 × Sto) × va_W) => (u.1 = F_M_sign v v2 s ∧ r = u.1.1 ∧ frm (M_M_sign) s u.1.2 ∧ (∃ x : Nat, u.1.2.1 148 1 = nI x ∧ x ≤ 16384) ∧ (∃ x : Nat, u.1.2.1 148 2 = nI x ∧ x ≤ 8192) ∧ (∃ x : Nat, u.1.2.1 148 3 = nI x ∧ x ≤ 8) ∧ True) ∧ okn g T u.1.2 u.2) (po g.1 vcl A (fun (u : (Int32 × Sto) × va_W) => [] ++ u.2)) A) args s0 0 0 A) (F0 m 129 ls []) := by
                  intro n22
                  induction n22 with
                  | zero =>
                    intro i22 s27 pl ls H locs hm22 hF hf109 hf110 hf111 hf112 hf113 hf114 hg65 hg66 hR hl hO hP hD hS
                    refine lv_iload hx hb dM_sign_129 (lv_at hl 0 rfl) ?_
                    refine lv_aload_n hx hb dM_sign_131 rfl (lv_at hl 2 rfl) ?_
                    refine nw_get (C := "LatticeKeysModel") (TT := T_M) (N := 14) hx hb hts (wg_ft i_M) hown hK hO k_h0 (kn := 148) (ci := 8) (fl := [(0, 0), (0, 0), (0, 0), (0, 0), (3, 149), (3, 150), (3, 151), (3, 152), (3, 161), (3, 170), (3, 171), (3, 172), (3, 184), (3, 225)]) rfl hP rfl 2 (by decide) (hts _ (wg_t kw_1528)) (fun _ h9 => h9) (cd := (0, 0)) rfl dM_sign_132 (fun v44 hv47 => ?_)
                    obtain rfl := (show v44 = .int (s27.1 148 2) from hv47)
                    obtain ⟨z36, ez36, hz44, hz45⟩ := cl_of (b := 2147483648) hf114 (by omega) (by decide)
                    replace hR := bnd_step hR ez36
                    refine mi_as hz44 ?_
                    subst hz45
                    refine mi_ge (tgt := 158) hx hb dM_sign_135 (by decide) (by omega) (by omega) (fun h39 => ?_) (fun h39 => absurd h39 (by omega))
                    refine lv_aload_n hx hb dM_sign_158 rfl (lv_at hl 2 rfl) ?_
                    refine lv_iconst (v := nI 0) hx hb dM_sign_159 (by decide) ?_
                    refine nw_put (C := "LatticeKeysModel") (TT := T_M) (N := 14) hx hb hts (wg_ft i_M) ty_M k_M n_M hown hK hO hU k_h0 (kn := 148) (ci := 8) (fl := [(0, 0), (0, 0), (0, 0), (0, 0), (3, 149), (3, 150), (3, 151), (3, 152), (3, 161), (3, 170), (3, 171), (3, 172), (3, 184), (3, 225)]) rfl hP hD hS rfl 1 (by decide) (hts _ (wg_t kw_1527)) (fun _ h9 => h9) rfl (by decide +kernel) rfl dM_sign_160 (fun s28 pl H locs es26 hO hP hD hS => ?_)
                    replace hR := bnd_step hR es26
                    have hF := frm_sI hF es26 (by unfold M_M_sign; omega)
                    have hf116 : s28.1 148 3 = nI ks := fc_ne hf110 es26 (by omega)
                    have hf117 : s28.1 148 0 = nI 0 := fc_ne hf111 es26 (by omega)
                    have hf118 : s28.1 170 z21 = nI 4 := fc_ne hf112 es26 (by omega)
                    have hf119 : s28.1 171 z21 = nI z30 := fc_ne hf113 es26 (by omega)
                    have hf120 : s28.1 148 2 = nI 3309 := fc_ne hf114 es26 (by omega)
                    have hf121 : s28.1 148 1 = nI 0 := fc_eq es26
                    have hg67 : SETS ks (s28.1 170) := by rw [(ar_sI es26 (by omega))]; exact hg65
                    have hg68 : HIDS ks (s28.1 171) := by rw [(ar_sI es26 (by omega))]; exact hg66
                    refine lv_iload_n hx hb dM_sign_163 rfl (lv_at hl 1 rfl) ?_
                    exact mp_iret hx hb hr hlk hP hD hS ((z34, s28), pl) ⟨⟨hR.symm, rfl, hF, ⟨0, hf121, by omega⟩, ⟨3309, hf120, by omega⟩, ⟨ks, hf116, by omega⟩, trivial⟩, hO⟩ [] rfl rfl rfl (by omega) (by omega) dM_sign_164
                  | succ n22 ih22 =>
                    intro i22 s27 pl ls H locs hm22 hF hf122 hf123 hf124 hf125 hf126 hf127 hg65 hg66 hR hl hO hP hD hS
                    refine lv_iload hx hb dM_sign_129 (lv_at hl 0 rfl) ?_
                    refine lv_aload_n hx hb dM_sign_131 rfl (lv_at hl 2 rfl) ?_
                    refine nw_get (C := "LatticeKeysModel") (TT := T_M) (N := 14) hx hb hts (wg_ft i_M) hown hK hO k_h0 (kn := 148) (ci := 8) (fl := [(0, 0), (0, 0), (0, 0), (0, 0), (3, 149), (3, 150), (3, 151), (3, 152), (3, 161), (3, 170), (3, 171), (3, 172), (3, 184), (3, 225)]) rfl hP rfl 2 (by decide) (hts _ (wg_t kw_1528)) (fun _ h9 => h9) (cd := (0, 0)) rfl dM_sign_132 (fun v45 hv48 => ?_)
                    obtain rfl := (show v45 = .int (s27.1 148 2) from hv48)
                    obtain ⟨z37, ez37, hz46, hz47⟩ := cl_of (b := 2147483648) hf127 (by omega) (by decide)
                    replace hR := bnd_step hR ez37
                    refine mi_as hz46 ?_
                    subst hz47
                    refine mi_ge (tgt := 158) hx hb dM_sign_135 (by decide) (by omega) (by omega) (fun h40 => absurd h40 (by omega)) (fun h40 => ?_)
                    refine lv_aload_n hx hb dM_sign_138 rfl (lv_at hl 2 rfl) ?_
                    refine nw_get (C := "LatticeKeysModel") (TT := T_M) (N := 14) hx hb hts (wg_ft i_M) hown hK hO k_h0 (kn := 148) (ci := 8) (fl := [(0, 0), (0, 0), (0, 0), (0, 0), (3, 149), (3, 150), (3, 151), (3, 152), (3, 161), (3, 170), (3, 171), (3, 172), (3, 184), (3, 225)]) rfl hP rfl 5 (by decide) (hts _ (wg_t kw_1531)) (fun _ h9 => h9) (cd := (3, 150)) rfl dM_sign_139 (fun v46 hv49 => ?_)
                    obtain ⟨r56, rfl, kr40⟩ := (show ∃ r : Nat, v46 = .ref r ∧ T r = some 150 from hv49)
                    refine lv_iload hx hb dM_sign_142 (lv_at hl 0 rfl) ?_
                    refine lv_aload_n hx hb dM_sign_144 rfl (lv_at hl 2 rfl) ?_
                    refine nw_get (C := "LatticeKeysModel") (TT := T_M) (N := 14) hx hb hts (wg_ft i_M) hown hK hO k_h0 (kn := 148) (ci := 8) (fl := [(0, 0), (0, 0), (0, 0), (0, 0), (3, 149), (3, 150), (3, 151), (3, 152), (3, 161), (3, 170), (3, 171), (3, 172), (3, 184), (3, 225)]) rfl hP rfl 6 (by decide) (hts _ (wg_t kw_1532)) (fun _ h9 => h9) (cd := (3, 151)) rfl dM_sign_145 (fun v47 hv50 => ?_)
                    obtain ⟨r57, rfl, kr41⟩ := (show ∃ r : Nat, v47 = .ref r ∧ T r = some 151 from hv50)
                    refine lv_iload hx hb dM_sign_148 (lv_at hl 0 rfl) ?_
                    refine nw_bald hx hb hK hO kr41 (k := 151) rfl hP (by omega) (by omega) dM_sign_150 ?_
                    refine nw_bast hx hb hK hO hU kr40 (k := 150) rfl hP hD hS (by omega) (by omega) dM_sign_151 (fun s29 pl H locs es27 hO hP hD hS => ?_)
                    replace hR := bnd_step hR es27
                    have hF := frm_sB hF es27 (by unfold M_M_sign; omega)
                    have hf128 : s29.1 148 1 = nI tp := fc_B hf122 es27 (by omega)
                    have hf129 : s29.1 148 3 = nI ks := fc_B hf123 es27 (by omega)
                    have hf130 : s29.1 148 0 = nI 0 := fc_B hf124 es27 (by omega)
                    have hf131 : s29.1 170 z21 = nI 4 := fc_B hf125 es27 (by omega)
                    have hf132 : s29.1 171 z21 = nI z30 := fc_B hf126 es27 (by omega)
                    have hf133 : s29.1 148 2 = nI 3309 := fc_B hf127 es27 (by omega)
                    have hg69 : SETS ks (s29.1 170) := by rw [(ar_sB es27 (by omega))]; exact hg65
                    have hg70 : HIDS ks (s29.1 171) := by rw [(ar_sB es27 (by omega))]; exact hg66
                    refine mi_iinc (k := 0) (x := i22) (d := 1) (y := i22 + 1) (lv' := [(4, .int (nI (i22 + 1))), (3, .int z34), (0, .ref h0)]) hx hb dM_sign_152 hl rfl (by decide) rfl (by decide) rfl (fun ls hl => ?_)
                    refine lv_goto (tgt := 129) hx hb dM_sign_155 (by decide) ?_
                    exact ih22 (i22 + 1) s29 pl ls H locs (by omega) hF hf128 hf129 hf130 hf131 hf132 hf133 hg69 hg70 hR (lv_sub hl [0, 1, 2] rfl) hO hP hD hS
                exact lp22 3309 0 s26 pl ls _ _ (by omega) hF hf102 hf104 hf105 hf106 hf107 hf108 hg63 hg64 hR (lv_sub hl [0, 1, 2] rfl) hO hP hD hS
              · replace hR := hR.trans (if_pos h38)
                refine lv_aload_n hx hb dM_sign_105 rfl (lv_at hl 1 rfl) ?_
                refine lv_iconst (v := nI 3) hx hb dM_sign_106 (by decide) ?_
                refine mp_i (cx := []) (wr := []) hP hD hS hA [] [] rfl rfl rfl (by decide) (va_runV (As := [.int (nI 3)]) (rest := []) F (N_M_fail l g _ T q35.2 pl hO hU h0 (nI 3) tp rs ks k_h0 hf90 hf91 hf92) (cwV 1 hts (wg_app (wg_c kw_1577 (wg_c kw_1579 (wg_c ks_50 (wg_c kw_9 wg_n)))) kw_1580) rfl rfl rfl (by decide +kernel) ⟨by decide, by decide⟩) (pn_W "LatticeKeysModel" (en_ok g) (ci := 8) (kn := 148) (fl := [(0, 0), (0, 0), (0, 0), (0, 0), (3, 149), (3, 150), (3, 151), (3, 152), (3, 161), (3, 170), (3, 171), (3, 172), (3, 184), (3, 225)]) hK hO k_h0 rfl hP hD hS hA hEn [] rfl rfl rfl) rfl rfl hl.1 rfl (lv_room (Nat.le_of_ble_eq_true rfl)) dM_sign_107 ⟨by omega, by omega⟩) (fun r58 u37 H locs hu37 hP hD hS => ?_)
                obtain ⟨q37, pl⟩ := u37
                obtain ⟨⟨eq37, rfl, hFc37, ⟨x70, hx_70, hb_70⟩, ⟨x71, hx_71, hb_71⟩, ⟨x72, hx_72, hb_72⟩, -⟩, hO⟩ := hu37
                have hO : okn g T q37.2 pl := hO
                have hP : va_P g.1 vcl ([] ++ pl) _ := hP
                have hD : va_D _ ([] ++ pl) := hD
                have hFc37 : frm (M_M_fail) q35.2 q37.2 := hFc37
                have hb_70 : x70 = tp := hb_70
                have hb_71 : x71 = rs := hb_71
                have hb_72 : x72 = ks := hb_72
                replace hR := bnd_step hR eq37
                have hF := frm_tr hF hFc37 (fun k hk => by unfold M_M_fail at hk; unfold M_M_sign; omega)
                have hf134 : q37.2.1 170 z21 = nI 4 := fc_F hf94 hFc37 (by unfold M_M_fail; omega)
                have hf135 : q37.2.1 171 z21 = nI z30 := fc_F hf95 hFc37 (by unfold M_M_fail; omega)
                have hg71 : SETS ks (q37.2.1 170) := by rw [hFc37 170 (by unfold M_M_fail; omega)]; exact hg59
                have hg72 : HIDS ks (q37.2.1 171) := by rw [hFc37 171 (by unfold M_M_fail; omega)]; exact hg60
                refine W.widen (k := 0) (n := 0) (by omega) (by omega) ?_
                exact mp_iret hx hb hr hlk hP hD hS ((q37.1, q37.2), pl) ⟨⟨hR.symm, rfl, hF, ⟨x70, hx_70, by omega⟩, ⟨x71, hx_71, by omega⟩, ⟨x72, hx_72, by omega⟩, trivial⟩, hO⟩ [] rfl rfl rfl (by omega) (by omega) dM_sign_110
            · replace hR := hR.trans (if_neg (Nat.not_le.mpr h37))
              replace hE := iteP_neg (Nat.not_le.mpr h37) hE
              refine lv_aload_n hx hb dM_sign_60 rfl (lv_at hl 0 rfl) ?_
              refine lv_iconst (v := nI 2) hx hb dM_sign_61 (by decide) ?_
              refine mp_i (cx := []) (wr := []) hP hD hS hA [] [] rfl rfl rfl (by decide) (va_runV (As := [.int (nI 2)]) (rest := []) F (N_M_fail l g _ T q21.2 pl hO hU h0 (nI 2) tp rs ks k_h0 hf25 hf26 hf27) (cwV 1 hts (wg_app (wg_c kw_1577 (wg_c kw_1579 (wg_c ks_50 (wg_c kw_9 wg_n)))) kw_1580) rfl rfl rfl (by decide +kernel) ⟨by decide, by decide⟩) (pn_W "LatticeKeysModel" (en_ok g) (ci := 8) (kn := 148) (fl := [(0, 0), (0, 0), (0, 0), (0, 0), (3, 149), (3, 150), (3, 151), (3, 152), (3, 161), (3, 170), (3, 171), (3, 172), (3, 184), (3, 225)]) hK hO k_h0 rfl hP hD hS hA hEn [] rfl rfl rfl) rfl rfl hl.1 rfl (lv_room (Nat.le_of_ble_eq_true rfl)) dM_sign_62 ⟨by omega, by omega⟩) (fun r59 u38 H locs hu38 hP hD hS => ?_)
              obtain ⟨q38, pl⟩ := u38
              obtain ⟨⟨eq38, rfl, hFc38, ⟨x74, hx_74, hb_74⟩, ⟨x75, hx_75, hb_75⟩, ⟨x76, hx_76, hb_76⟩, -⟩, hO⟩ := hu38
              have hO : okn g T q38.2 pl := hO
              have hP : va_P g.1 vcl ([] ++ pl) _ := hP
              have hD : va_D _ ([] ++ pl) := hD
              have hFc38 : frm (M_M_fail) q21.2 q38.2 := hFc38
              have hb_74 : x74 = tp := hb_74
              have hb_75 : x75 = rs := hb_75
              have hb_76 : x76 = ks := hb_76
              replace hR := bnd_step hR eq38
              replace hE := bndP_step hE eq38
              have hF := frm_tr hF hFc38 (fun k hk => by unfold M_M_fail at hk; unfold M_M_sign; omega)
              have hf136 : q38.2.1 170 z21 = nI 4 := fc_F hs25 hFc38 (by unfold M_M_fail; omega)
              have hf137 : q38.2.1 171 z21 = nI z30 := fc_F hz35 hFc38 (by unfold M_M_fail; omega)
              have hg73 : SETS ks (q38.2.1 170) := by rw [hFc38 170 (by unfold M_M_fail; omega)]; exact hg23
              have hg74 : HIDS ks (q38.2.1 171) := by rw [hFc38 171 (by unfold M_M_fail; omega)]; exact hg24
              refine W.widen (k := 0) (n := 0) (by omega) (by omega) ?_
              exact mp_iret hx hb hr hlk hP hD hS ((q38.1, q38.2), pl) ⟨⟨hR.symm, rfl, hF, ⟨x74, hx_74, by omega⟩, ⟨x75, hx_75, by omega⟩, ⟨x76, hx_76, by omega⟩, trivial⟩, hO⟩ [] rfl rfl rfl (by omega) (by omega) dM_sign_65
      · replace hR := hR.trans (if_pos h34)
        replace hE := iteP_pos h34 hE
        refine lv_aload_n hx hb dM_sign_32 rfl (lv_at hl 0 rfl) ?_
        refine lv_iconst (v := nI 1) hx hb dM_sign_33 (by decide) ?_
        refine mp_i (cx := []) (wr := []) hP hD hS hA [] [] rfl rfl rfl (by decide) (va_runV (As := [.int (nI 1)]) (rest := []) F (N_M_fail l g _ T q21.2 pl hO hU h0 (nI 1) tp rs ks k_h0 hf25 hf26 hf27) (cwV 1 hts (wg_app (wg_c kw_1577 (wg_c kw_1579 (wg_c ks_50 (wg_c kw_9 wg_n)))) kw_1580) rfl rfl rfl (by decide +kernel) ⟨by decide, by decide⟩) (pn_W "LatticeKeysModel" (en_ok g) (ci := 8) (kn := 148) (fl := [(0, 0), (0, 0), (0, 0), (0, 0), (3, 149), (3, 150), (3, 151), (3, 152), (3, 161), (3, 170), (3, 171), (3, 172), (3, 184), (3, 225)]) hK hO k_h0 rfl hP hD hS hA hEn [] rfl rfl rfl) rfl rfl hl.1 rfl (lv_room (Nat.le_of_ble_eq_true rfl)) dM_sign_34 ⟨by omega, by omega⟩) (fun r60 u39 H locs hu39 hP hD hS => ?_)
        obtain ⟨q39, pl⟩ := u39
        obtain ⟨⟨eq39, rfl, hFc39, ⟨x78, hx_78, hb_78⟩, ⟨x79, hx_79, hb_79⟩, ⟨x80, hx_80, hb_80⟩, -⟩, hO⟩ := hu39
        have hO : okn g T q39.2 pl := hO
        have hP : va_P g.1 vcl ([] ++ pl) _ := hP
        have hD : va_D _ ([] ++ pl) := hD
        have hFc39 : frm (M_M_fail) q21.2 q39.2 := hFc39
        have hb_78 : x78 = tp := hb_78
        have hb_79 : x79 = rs := hb_79
        have hb_80 : x80 = ks := hb_80
        replace hR := bnd_step hR eq39
        replace hE := bndP_step hE eq39
        have hF := frm_tr hF hFc39 (fun k hk => by unfold M_M_fail at hk; unfold M_M_sign; omega)
        have hf138 : q39.2.1 170 z21 = nI 4 := fc_F hs25 hFc39 (by unfold M_M_fail; omega)
        have hf139 : q39.2.1 171 z21 = nI z30 := fc_F hz35 hFc39 (by unfold M_M_fail; omega)
        have hg75 : SETS ks (q39.2.1 170) := by rw [hFc39 170 (by unfold M_M_fail; omega)]; exact hg23
        have hg76 : HIDS ks (q39.2.1 171) := by rw [hFc39 171 (by unfold M_M_fail; omega)]; exact hg24
        refine W.widen (k := 0) (n := 0) (by omega) (by omega) ?_
        exact mp_iret hx hb hr hlk hP hD hS ((q39.1, q39.2), pl) ⟨⟨hR.symm, rfl, hF, ⟨x78, hx_78, by omega⟩, ⟨x79, hx_79, by omega⟩, ⟨x80, hx_80, by omega⟩, trivial⟩, hO⟩ [] rfl rfl rfl (by omega) (by omega) dM_sign_37
    replace hR := hR.trans (if_neg hs25)
    replace hE := iteP_neg hs25 hE
    have hs26 : (q21.2.1 170 z21) = nI 5 := set5 hg23 (by omega) hs21 hs22 hs23 hs24 hs25
    refine mi_as hs26 ?_
    refine lv_iconst (v := nI 3) hx hb dM_sign_19 (by decide) ?_
    refine mi_lt (tgt := 32) hx hb dM_sign_20 (by decide) (by omega) (by omega) (fun h41 => absurd h41 (by omega)) (fun h41 => ?_)
    refine lv_aload_n hx hb dM_sign_23 rfl (lv_at hl 0 rfl) ?_
    refine nw_get (C := "LatticeKeysModel") (TT := T_M) (N := 14) hx hb hts (wg_ft i_M) hown hK hO k_h0 (kn := 148) (ci := 8) (fl := [(0, 0), (0, 0), (0, 0), (0, 0), (3, 149), (3, 150), (3, 151), (3, 152), (3, 161), (3, 170), (3, 171), (3, 172), (3, 184), (3, 225)]) rfl hP rfl 10 (by decide) (hts _ (wg_t kw_1536)) (fun _ h9 => h9) (cd := (3, 171)) rfl dM_sign_24 (fun v48 hv51 => ?_)
    obtain ⟨r61, rfl, kr42⟩ := (show ∃ r : Nat, v48 = .ref r ∧ T r = some 171 from hv51)
    refine lv_iload_n hx hb dM_sign_27 rfl (lv_at hl 1 rfl) ?_
    refine nw_iald hx hb hK hO kr42 (k := 171) rfl hP (by omega) (by omega) dM_sign_28 ?_
    obtain ⟨c23, hc23, hb23⟩ := hg24 z21 (by omega)
    obtain ⟨z38, ez38, hz48, hz49⟩ := cl_of (b := 2147483648) hc23 (by omega) (by decide)
    replace hR := bnd_step hR ez38
    replace hE := bndP_step hE ez38
    refine mi_as hz48 ?_
    refine lv_if_ne (tgt := 38) hx hb dM_sign_29 (by decide) (fun h42 => ?_) (fun h42 => ?_)
    · replace hR := hR.trans (if_neg h42)
      replace hE := iteP_neg h42 hE
      refine lv_iload_n hx hb dM_sign_38 rfl (lv_at hl 2 rfl) ?_
      refine lv_if_lt (tgt := 60) hx hb dM_sign_39 (by decide) (fun h43 => ?_) (fun h43 => ?_)
      · replace hR := hR.trans (if_pos h43)
        replace hE := iteP_pos h43 hE
        refine lv_aload_n hx hb dM_sign_60 rfl (lv_at hl 0 rfl) ?_
        refine lv_iconst (v := nI 2) hx hb dM_sign_61 (by decide) ?_
        refine mp_i (cx := []) (wr := []) hP hD hS hA [] [] rfl rfl rfl (by decide) (va_runV (As := [.int (nI 2)]) (rest := []) F (N_M_fail l g _ T q21.2 pl hO hU h0 (nI 2) tp rs ks k_h0 hf25 hf26 hf27) (cwV 1 hts (wg_app (wg_c kw_1577 (wg_c kw_1579 (wg_c ks_50 (wg_c kw_9 wg_n)))) kw_1580) rfl rfl rfl (by decide +kernel) ⟨by decide, by decide⟩) (pn_W "LatticeKeysModel" (en_ok g) (ci := 8) (kn := 148) (fl := [(0, 0), (0, 0), (0, 0), (0, 0), (3, 149), (3, 150), (3, 151), (3, 152), (3, 161), (3, 170), (3, 171), (3, 172), (3, 184), (3, 225)]) hK hO k_h0 rfl hP hD hS hA hEn [] rfl rfl rfl) rfl rfl hl.1 rfl (lv_room (Nat.le_of_ble_eq_true rfl)) dM_sign_62 ⟨by omega, by omega⟩) (fun r62 u40 H locs hu40 hP hD hS => ?_)
        obtain ⟨q40, pl⟩ := u40
        obtain ⟨⟨eq40, rfl, hFc40, ⟨x82, hx_82, hb_82⟩, ⟨x83, hx_83, hb_83⟩, ⟨x84, hx_84, hb_84⟩, -⟩, hO⟩ := hu40
        have hO : okn g T q40.2 pl := hO
        have hP : va_P g.1 vcl ([] ++ pl) _ := hP
        have hD : va_D _ ([] ++ pl) := hD
        have hFc40 : frm (M_M_fail) q21.2 q40.2 := hFc40
        have hb_82 : x82 = tp := hb_82
        have hb_83 : x83 = rs := hb_83
        have hb_84 : x84 = ks := hb_84
        replace hR := bnd_step hR eq40
        replace hE := bndP_step hE eq40
        have hF := frm_tr hF hFc40 (fun k hk => by unfold M_M_fail at hk; unfold M_M_sign; omega)
        have hf140 : q40.2.1 170 z21 = nI 5 := fc_F hs26 hFc40 (by unfold M_M_fail; omega)
        have hf141 : q40.2.1 171 z21 = nI z38 := fc_F hz48 hFc40 (by unfold M_M_fail; omega)
        have hg77 : SETS ks (q40.2.1 170) := by rw [hFc40 170 (by unfold M_M_fail; omega)]; exact hg23
        have hg78 : HIDS ks (q40.2.1 171) := by rw [hFc40 171 (by unfold M_M_fail; omega)]; exact hg24
        refine W.widen (k := 0) (n := 0) (by omega) (by omega) ?_
        exact mp_iret hx hb hr hlk hP hD hS ((q40.1, q40.2), pl) ⟨⟨hR.symm, rfl, hF, ⟨x82, hx_82, by omega⟩, ⟨x83, hx_83, by omega⟩, ⟨x84, hx_84, by omega⟩, trivial⟩, hO⟩ [] rfl rfl rfl (by omega) (by omega) dM_sign_65
      · replace hR := hR.trans (if_neg h43)
        replace hE := iteP_neg h43 hE
        refine lv_iload_n hx hb dM_sign_42 rfl (lv_at hl 2 rfl) ?_
        refine lv_sipush (v := nI 255) hx hb dM_sign_43 (by decide) ?_
        refine lv_icmp_gt (tgt := 60) hx hb dM_sign_46 (by decide) (fun h44 => ?_) (fun h44 => ?_)
        · replace hR := hR.trans (if_pos h44)
          replace hE := iteP_pos h44 hE
          refine lv_aload_n hx hb dM_sign_60 rfl (lv_at hl 0 rfl) ?_
          refine lv_iconst (v := nI 2) hx hb dM_sign_61 (by decide) ?_
          refine mp_i (cx := []) (wr := []) hP hD hS hA [] [] rfl rfl rfl (by decide) (va_runV (As := [.int (nI 2)]) (rest := []) F (N_M_fail l g _ T q21.2 pl hO hU h0 (nI 2) tp rs ks k_h0 hf25 hf26 hf27) (cwV 1 hts (wg_app (wg_c kw_1577 (wg_c kw_1579 (wg_c ks_50 (wg_c kw_9 wg_n)))) kw_1580) rfl rfl rfl (by decide +kernel) ⟨by decide, by decide⟩) (pn_W "LatticeKeysModel" (en_ok g) (ci := 8) (kn := 148) (fl := [(0, 0), (0, 0), (0, 0), (0, 0), (3, 149), (3, 150), (3, 151), (3, 152), (3, 161), (3, 170), (3, 171), (3, 172), (3, 184), (3, 225)]) hK hO k_h0 rfl hP hD hS hA hEn [] rfl rfl rfl) rfl rfl hl.1 rfl (lv_room (Nat.le_of_ble_eq_true rfl)) dM_sign_62 ⟨by omega, by omega⟩) (fun r63 u41 H locs hu41 hP hD hS => ?_)
          obtain ⟨q41, pl⟩ := u41
          obtain ⟨⟨eq41, rfl, hFc41, ⟨x86, hx_86, hb_86⟩, ⟨x87, hx_87, hb_87⟩, ⟨x88, hx_88, hb_88⟩, -⟩, hO⟩ := hu41
          have hO : okn g T q41.2 pl := hO
          have hP : va_P g.1 vcl ([] ++ pl) _ := hP
          have hD : va_D _ ([] ++ pl) := hD
          have hFc41 : frm (M_M_fail) q21.2 q41.2 := hFc41
          have hb_86 : x86 = tp := hb_86
          have hb_87 : x87 = rs := hb_87
          have hb_88 : x88 = ks := hb_88
          replace hR := bnd_step hR eq41
          replace hE := bndP_step hE eq41
          have hF := frm_tr hF hFc41 (fun k hk => by unfold M_M_fail at hk; unfold M_M_sign; omega)
          have hf142 : q41.2.1 170 z21 = nI 5 := fc_F hs26 hFc41 (by unfold M_M_fail; omega)
          have hf143 : q41.2.1 171 z21 = nI z38 := fc_F hz48 hFc41 (by unfold M_M_fail; omega)
          have hg79 : SETS ks (q41.2.1 170) := by rw [hFc41 170 (by unfold M_M_fail; omega)]; exact hg23
          have hg80 : HIDS ks (q41.2.1 171) := by rw [hFc41 171 (by unfold M_M_fail; omega)]; exact hg24
          refine W.widen (k := 0) (n := 0) (by omega) (by omega) ?_
          exact mp_iret hx hb hr hlk hP hD hS ((q41.1, q41.2), pl) ⟨⟨hR.symm, rfl, hF, ⟨x86, hx_86, by omega⟩, ⟨x87, hx_87, by omega⟩, ⟨x88, hx_88, by omega⟩, trivial⟩, hO⟩ [] rfl rfl rfl (by omega) (by omega) dM_sign_65
        · replace hR := hR.trans (if_neg h44)
          replace hE := iteP_neg h44 hE
          obtain ⟨z39, hz50, hv52⟩ := i32_lex h43 (by omega) h44
          have ez39 : z39 = v2.toNatClampNeg := by rw [hv52]; exact (nI_clamp (by omega)).symm
          replace hR := bnd_step hR ez39
          replace hE := bndP_step hE ez39
          rw [hv52] at hl
          refine lv_aload_n hx hb dM_sign_49 rfl (lv_at hl 0 rfl) ?_
          refine nw_get (C := "LatticeKeysModel") (TT := T_M) (N := 14) hx hb hts (wg_ft i_M) hown hK hO k_h0 (kn := 148) (ci := 8) (fl := [(0, 0), (0, 0), (0, 0), (0, 0), (3, 149), (3, 150), (3, 151), (3, 152), (3, 161), (3, 170), (3, 171), (3, 172), (3, 184), (3, 225)]) rfl hP rfl 1 (by decide) (hts _ (wg_t kw_1527)) (fun _ h9 => h9) (cd := (0, 0)) rfl dM_sign_50 (fun v49 hv53 => ?_)
          obtain rfl := (show v49 = .int (q21.2.1 148 1) from hv53)
          obtain ⟨z40, ez40, hz51, hz52⟩ := cl_of (b := 2147483648) hf25 (by omega) (by decide)
          replace hR := bnd_step hR ez40
          replace hE := bndP_step hE ez40
          refine mi_as hz51 ?_
          refine lv_bipush (v := nI 32) hx hb dM_sign_53 (by decide) ?_
          refine lv_iload_n hx hb dM_sign_55 rfl (lv_at hl 2 rfl) ?_
          refine mi_iadd hx hb dM_sign_56 ?_
          refine mi_ge (tgt := 66) hx hb dM_sign_57 (by decide) (by omega) (by omega) (fun h45 => ?_) (fun h45 => ?_)
          · replace hR := hR.trans (if_pos h45)
            replace hE := iteP_pos h45 hE
            refine lv_aload_n hx hb dM_sign_66 rfl (lv_at hl 0 rfl) ?_
            refine nw_get (C := "LatticeKeysModel") (TT := T_M) (N := 14) hx hb hts (wg_ft i_M) hown hK hO k_h0 (kn := 148) (ci := 8) (fl := [(0, 0), (0, 0), (0, 0), (0, 0), (3, 149), (3, 150), (3, 151), (3, 152), (3, 161), (3, 170), (3, 171), (3, 172), (3, 184), (3, 225)]) rfl hP rfl 13 (by decide) (hts _ (wg_t kw_1539)) (fun _ h9 => h9) (cd := (3, 225)) rfl dM_sign_67 (fun v50 hv54 => ?_)
            obtain ⟨r64, rfl, kr43⟩ := (show ∃ r : Nat, v50 = .ref r ∧ T r = some 225 from hv54)
            refine lv_aload_n hx hb dM_sign_70 rfl (lv_at hl 0 rfl) ?_
            refine nw_get (C := "LatticeKeysModel") (TT := T_M) (N := 14) hx hb hts (wg_ft i_M) hown hK hO k_h0 (kn := 148) (ci := 8) (fl := [(0, 0), (0, 0), (0, 0), (0, 0), (3, 149), (3, 150), (3, 151), (3, 152), (3, 161), (3, 170), (3, 171), (3, 172), (3, 184), (3, 225)]) rfl hP rfl 9 (by decide) (hts _ (wg_t kw_1535)) (fun _ h9 => h9) (cd := (3, 170)) rfl dM_sign_71 (fun v51 hv55 => ?_)
            obtain ⟨r65, rfl, kr44⟩ := (show ∃ r : Nat, v51 = .ref r ∧ T r = some 170 from hv55)
            refine lv_iload_n hx hb dM_sign_74 rfl (lv_at hl 1 rfl) ?_
            refine nw_iald hx hb hK hO kr44 (k := 170) rfl hP (by omega) (by omega) dM_sign_75 ?_
            refine mi_as hs26 ?_
            refine lv_iconst (v := nI 3) hx hb dM_sign_76 (by decide) ?_
            refine mi_isub hx hb dM_sign_77 (by omega) ?_
            refine mi_as (show nI (5 - 3) = nI 2 from rfl) ?_
            refine lv_aload_n hx hb dM_sign_78 rfl (lv_at hl 0 rfl) ?_
            refine nw_get (C := "LatticeKeysModel") (TT := T_M) (N := 14) hx hb hts (wg_ft i_M) hown hK hO k_h0 (kn := 148) (ci := 8) (fl := [(0, 0), (0, 0), (0, 0), (0, 0), (3, 149), (3, 150), (3, 151), (3, 152), (3, 161), (3, 170), (3, 171), (3, 172), (3, 184), (3, 225)]) rfl hP rfl 8 (by decide) (hts _ (wg_t kw_1534)) (fun _ h9 => h9) (cd := (3, 161)) rfl dM_sign_79 (fun v52 hv56 => ?_)
            obtain ⟨r66, rfl, kr45⟩ := (show ∃ r : Nat, v52 = .ref r ∧ T r = some 161 from hv56)
            refine lv_iload_n hx hb dM_sign_82 rfl (lv_at hl 1 rfl) ?_
            refine nw_aald4 hx hb hK hO kr45 (k := 161) (b := 162) rfl hP (by omega) (by omega) dM_sign_83 (fun r67 kr46 => ?_)
            have hn23 : nsp (162 + z21) = (1, 4896, []) := rows_okb 162 8 4896 (by decide) _ (by omega)
            refine lv_aload_n hx hb dM_sign_84 rfl (lv_at hl 0 rfl) ?_
            refine nw_get (C := "LatticeKeysModel") (TT := T_M) (N := 14) hx hb hts (wg_ft i_M) hown hK hO k_h0 (kn := 148) (ci := 8) (fl := [(0, 0), (0, 0), (0, 0), (0, 0), (3, 149), (3, 150), (3, 151), (3, 152), (3, 161), (3, 170), (3, 171), (3, 172), (3, 184), (3, 225)]) rfl hP rfl 4 (by decide) (hts _ (wg_t kw_1530)) (fun _ h9 => h9) (cd := (3, 149)) rfl dM_sign_85 (fun v53 hv57 => ?_)
            obtain ⟨r68, rfl, kr47⟩ := (show ∃ r : Nat, v53 = .ref r ∧ T r = some 149 from hv57)
            refine lv_iload_n hx hb dM_sign_88 rfl (lv_at hl 2 rfl) ?_
            refine lv_aload_n hx hb dM_sign_89 rfl (lv_at hl 0 rfl) ?_
            refine nw_get (C := "LatticeKeysModel") (TT := T_M) (N := 14) hx hb hts (wg_ft i_M) hown hK hO k_h0 (kn := 148) (ci := 8) (fl := [(0, 0), (0, 0), (0, 0), (0, 0), (3, 149), (3, 150), (3, 151), (3, 152), (3, 161), (3, 170), (3, 171), (3, 172), (3, 184), (3, 225)]) rfl hP rfl 1 (by decide) (hts _ (wg_t kw_1527)) (fun _ h9 => h9) (cd := (0, 0)) rfl dM_sign_90 (fun v54 hv58 => ?_)
            obtain rfl := (show v54 = .int (q21.2.1 148 1) from hv58)
            obtain ⟨z41, ez41, hz53, hz54⟩ := cl_of (b := 2147483648) hf25 (by omega) (by decide)
            replace hR := bnd_step hR ez41
            replace hE := bndP_step hE ez41
            refine mi_as hz53 ?_
            refine lv_aload_n hx hb dM_sign_93 rfl (lv_at hl 0 rfl) ?_
            refine nw_get (C := "LatticeKeysModel") (TT := T_M) (N := 14) hx hb hts (wg_ft i_M) hown hK hO k_h0 (kn := 148) (ci := 8) (fl := [(0, 0), (0, 0), (0, 0), (0, 0), (3, 149), (3, 150), (3, 151), (3, 152), (3, 161), (3, 170), (3, 171), (3, 172), (3, 184), (3, 225)]) rfl hP rfl 6 (by decide) (hts _ (wg_t kw_1532)) (fun _ h9 => h9) (cd := (3, 151)) rfl dM_sign_94 (fun v55 hv59 => ?_)
            obtain ⟨r69, rfl, kr48⟩ := (show ∃ r : Nat, v55 = .ref r ∧ T r = some 151 from hv59)
            refine mp_i (cx := []) (wr := []) hP hD hS hA [] [] rfl rfl rfl (by decide) (va_runV (As := [.int (nI 2), .ref r67, .ref r68, .int (nI z39), .int (nI z41), .ref r69]) (rest := []) F (N_MH_sign_2 l g _ T q21.2 pl hO hU r64 r67 r68 r69 (162 + z21) 149 16384 (nI z39) z41 151 kr43 kr46 hn23 kr47 rfl kr48 rfl (by omega) (by omega) (by omega) hE.1) (cwV 6 hts (wg_app (wg_c kw_1856 (wg_c kw_1857 (wg_c kw_1858 (wg_c kw_13 wg_n)))) kw_1859) rfl rfl rfl (by decide +kernel) ⟨by decide, by decide⟩) (pn_W "LatticeKeysModel$Hands" (en_ok g) (ci := 12) (kn := 225) (fl := [(3, 172), (3, 181), (3, 226), (3, 291), (3, 299), (3, 308), (3, 317), (3, 326), (3, 334), (3, 342), (3, 350), (3, 359), (3, 368), (3, 369), (3, 370), (3, 371), (3, 372), (3, 373), (3, 374), (3, 375), (3, 376), (3, 377), (3, 378), (0, 0), (0, 0), (0, 0), (0, 0), (0, 0), (0, 0), (0, 0), (0, 0)]) hK hO kr43 rfl hP hD hS hA hEn [] rfl rfl rfl) rfl rfl hl.1 rfl (lv_room (Nat.le_of_ble_eq_true rfl)) dM_sign_97 ⟨by omega, by omega⟩) (fun r70 u42 H locs hu42 hP hD hS => ?_)
            obtain ⟨q42, pl⟩ := u42
            obtain ⟨⟨eq42, rfl, hFc42, -⟩, hO⟩ := hu42
            have hO : okn g T q42.2 pl := hO
            have hP : va_P g.1 vcl ([] ++ pl) _ := hP
            have hD : va_D _ ([] ++ pl) := hD
            have hFc42 : frm (M_MH_sign_2 151) q21.2 q42.2 := hFc42
            clear hE
            replace hR := bnd_step hR eq42
            have hF := frm_tr hF hFc42 (fun k hk => by unfold M_MH_sign_2 at hk; unfold M_M_sign; omega)
            have hf144 : q42.2.1 148 1 = nI tp := fc_F hf25 hFc42 (by unfold M_MH_sign_2; omega)
            have hf145 : q42.2.1 148 2 = nI rs := fc_F hf26 hFc42 (by unfold M_MH_sign_2; omega)
            have hf146 : q42.2.1 148 3 = nI ks := fc_F hf27 hFc42 (by unfold M_MH_sign_2; omega)
            have hf147 : q42.2.1 148 0 = nI 0 := fc_F hf28 hFc42 (by unfold M_MH_sign_2; omega)
            have hf148 : q42.2.1 170 z21 = nI 5 := fc_F hs26 hFc42 (by unfold M_MH_sign_2; omega)
            have hf149 : q42.2.1 171 z21 = nI z38 := fc_F hz48 hFc42 (by unfold M_MH_sign_2; omega)
            have hg81 : SETS ks (q42.2.1 170) := by rw [hFc42 170 (by unfold M_MH_sign_2; omega)]; exact hg23
            have hg82 : HIDS ks (q42.2.1 171) := by rw [hFc42 171 (by unfold M_MH_sign_2; omega)]; exact hg24
            refine W.widen (k := 0) (n := 0) (by omega) (by omega) ?_
            refine mi_eqv (fun z42 ez42 => ?_)
            replace hR := bnd_step hR ez42
            refine lv_istore_n (lv' := [(3, .int z42), (0, .ref h0), (1, .int (nI z21)), (2, .int (nI z39))]) hx hb dM_sign_100 rfl hl (by decide) rfl (fun ls hl => ?_)
            refine lv_iload_n hx hb dM_sign_101 rfl (lv_at hl 0 rfl) ?_
            refine lv_if_ne (tgt := 111) hx hb dM_sign_102 (by decide) (fun h46 => ?_) (fun h46 => ?_)
            · replace hR := hR.trans (if_neg h46)
              refine lv_aload_n hx hb dM_sign_111 rfl (lv_at hl 1 rfl) ?_
              refine lv_aload_n hx hb dM_sign_112 rfl (lv_at hl 1 rfl) ?_
              refine nw_get (C := "LatticeKeysModel") (TT := T_M) (N := 14) hx hb hts (wg_ft i_M) hown hK hO k_h0 (kn := 148) (ci := 8) (fl := [(0, 0), (0, 0), (0, 0), (0, 0), (3, 149), (3, 150), (3, 151), (3, 152), (3, 161), (3, 170), (3, 171), (3, 172), (3, 184), (3, 225)]) rfl hP rfl 9 (by decide) (hts _ (wg_t kw_1535)) (fun _ h9 => h9) (cd := (3, 170)) rfl dM_sign_113 (fun v56 hv60 => ?_)
              obtain ⟨r71, rfl, kr49⟩ := (show ∃ r : Nat, v56 = .ref r ∧ T r = some 170 from hv60)
              refine lv_iload_n hx hb dM_sign_116 rfl (lv_at hl 2 rfl) ?_
              refine nw_iald hx hb hK hO kr49 (k := 170) rfl hP (by omega) (by omega) dM_sign_117 ?_
              refine mi_as hf148 ?_
              refine lv_iconst (v := nI 3) hx hb dM_sign_118 (by decide) ?_
              refine mi_isub hx hb dM_sign_119 (by omega) ?_
              refine mi_as (show nI (5 - 3) = nI 2 from rfl) ?_
              refine mp_i (cx := []) (wr := []) hP hD hS hA [] [] rfl rfl rfl (by decide) (va_runS (As := [.int (nI 2)]) (rest := [.ref h0]) F (N_MH_markSize_2 l g _ T q42.2 pl hO hU ) (va_cwS 1 hts (wg_app (wg_c kw_1918 (wg_c kw_1919 (wg_c kw_13 wg_n))) kw_1920) rfl rfl rfl (by decide +kernel) ⟨by decide, by decide⟩) (pp_S (en_ok g) hP hD hS hA hEn [] rfl rfl) rfl rfl hl.1 rfl (lv_room (Nat.le_of_ble_eq_true rfl)) dM_sign_120 ⟨by omega, by omega⟩) (fun r72 u43 H locs hu43 hP hD hS => ?_)
              obtain ⟨q43, pl⟩ := u43
              obtain ⟨⟨eq43, rfl, hFc43, ⟨x91, hx_91, hb_91⟩, hxp43, -⟩, hO⟩ := hu43
              have hO : okn g T q43.2 pl := hO
              have hP : va_P g.1 vcl ([] ++ pl) _ := hP
              have hD : va_D _ ([] ++ pl) := hD
              have hFc43 : frm (M_MH_markSize_2) q42.2 q43.2 := hFc43
              have hb_91 : x91 < 4628 := hb_91
              replace hR := bnd_step hR eq43
              have hF := frm_tr hF hFc43 (fun k hk => by unfold M_MH_markSize_2 at hk; unfold M_M_sign; omega)
              have hf150 : q43.2.1 148 1 = nI tp := fc_F hf144 hFc43 (by unfold M_MH_markSize_2; omega)
              have hf151 : q43.2.1 148 2 = nI rs := fc_F hf145 hFc43 (by unfold M_MH_markSize_2; omega)
              have hf152 : q43.2.1 148 3 = nI ks := fc_F hf146 hFc43 (by unfold M_MH_markSize_2; omega)
              have hf153 : q43.2.1 148 0 = nI 0 := fc_F hf147 hFc43 (by unfold M_MH_markSize_2; omega)
              have hf154 : q43.2.1 170 z21 = nI 5 := fc_F hf148 hFc43 (by unfold M_MH_markSize_2; omega)
              have hf155 : q43.2.1 171 z21 = nI z38 := fc_F hf149 hFc43 (by unfold M_MH_markSize_2; omega)
              have hg83 : SETS ks (q43.2.1 170) := by rw [hFc43 170 (by unfold M_MH_markSize_2; omega)]; exact hg81
              have hg84 : HIDS ks (q43.2.1 171) := by rw [hFc43 171 (by unfold M_MH_markSize_2; omega)]; exact hg82
              obtain ⟨z43, ez43, hz55, hz56⟩ := cl_of (b := 2147483648) hx_91 (by omega) (by decide)
              replace hR := bnd_step hR ez43
              refine mi_as hz55 ?_
              have hsz23 : z43 = 4627 := (nI_eq (by omega) (by omega)).mp (hz55.symm.trans hxp43)
              subst hsz23
              refine W.widen (k := 0) (n := 0) (by omega) (by omega) ?_
              refine nw_put (C := "LatticeKeysModel") (TT := T_M) (N := 14) hx hb hts (wg_ft i_M) ty_M k_M n_M hown hK hO hU k_h0 (kn := 148) (ci := 8) (fl := [(0, 0), (0, 0), (0, 0), (0, 0), (3, 149), (3, 150), (3, 151), (3, 152), (3, 161), (3, 170), (3, 171), (3, 172), (3, 184), (3, 225)]) rfl hP hD hS rfl 2 (by decide) (hts _ (wg_t kw_1528)) (fun _ h9 => h9) rfl (by decide +kernel) rfl dM_sign_123 (fun s30 pl H locs es28 hO hP hD hS => ?_)
              replace hR := bnd_step hR es28
              have hF := frm_sI hF es28 (by unfold M_M_sign; omega)
              have hf156 : s30.1 148 1 = nI tp := fc_ne hf150 es28 (by omega)
              have hf158 : s30.1 148 3 = nI ks := fc_ne hf152 es28 (by omega)
              have hf159 : s30.1 148 0 = nI 0 := fc_ne hf153 es28 (by omega)
              have hf160 : s30.1 170 z21 = nI 5 := fc_ne hf154 es28 (by omega)
              have hf161 : s30.1 171 z21 = nI z38 := fc_ne hf155 es28 (by omega)
              have hf162 : s30.1 148 2 = nI 4627 := fc_eq es28
              have hg85 : SETS ks (s30.1 170) := by rw [(ar_sI es28 (by omega))]; exact hg83
              have hg86 : HIDS ks (s30.1 171) := by rw [(ar_sI es28 (by omega))]; exact hg84
              refine lv_iconst (v := nI 0) hx hb dM_sign_126 (by decide) ?_
              refine lv_istore (lv' := [(4, .int (nI 0)), (3, .int z42), (0, .ref h0), (1, .int (nI z21)), (2, .int (nI z39))]) hx hb dM_sign_127 hl (by decide) rfl (fun ls hl => ?_)
              have lp23 : ∀ (n23 : Nat) (i23 : Nat) (s31 : Sto) (pl : va_W) (ls : Array Slot) (H : Heap) (locs : List Loc), n23 + i23 = 4627 → frm (M_M_sign) s s31 → s31.1 148 1 = nI tp → s31.1 148 3 = nI ks → s31.1 148 0 = nI 0 → s31.1 170 z21 = nI 5 → s31.1 171 z21 = nI z38 → s31.1 148 2 = nI 4627 → (SETS ks (s31.1 170)) → (HIDS ks (s31.1 171)) → F_M_sign v v2 s = F_M_sign_L2 z42 n23 i23 s31 → lv_has ls 5 [(4, .int (nI i23)), (3, .int z42), (0, .ref h0)] → okn g T s31 pl → va_P g.1 vcl ([] ++ pl) H → va_D A ([] ++ pl) → va_S A s0.heap H locs → W p l e ({ frames := 6, cells := 0, slots := 0, locals := 144 } : Room) s0 m args below meth c H locs 0 0 (MQ below (va_Qi (fun (r : Int32) (u : (Int32 × Sto) × va_W) => (u.1 = F_M_sign v v2 s ∧ r = u.1.1 ∧ frm (M_M_sign) s u.1.2 ∧ (∃ x : Nat, u.1.2.1 148 1 = nI x ∧ x ≤ 16384) ∧ (∃ x : Nat, u.1.2.1 148 2 = nI x ∧ x ≤ 8192) ∧ (∃ x : Nat, u.1.2.1 148 3 = nI x ∧ x ≤ 8) ∧ True) ∧ okn g T u.1.2 u.2) (po g.1 vcl A (fun (u : (Int32 × Sto) × va_W) => [] ++ u.2)) A) args s0 0 0 A) (F0 m 129 ls []) := by
                intro n23
                induction n23 with
                | zero =>
                  intro i23 s31 pl ls H locs hm23 hF hf163 hf164 hf165 hf166 hf167 hf168 hg87 hg88 hR hl hO hP hD hS
                  refine lv_iload hx hb dM_sign_129 (lv_at hl 0 rfl) ?_
                  refine lv_aload_n hx hb dM_sign_131 rfl (lv_at hl 2 rfl) ?_
                  refine nw_get (C := "LatticeKeysModel") (TT := T_M) (N := 14) hx hb hts (wg_ft i_M) hown hK hO k_h0 (kn := 148) (ci := 8) (fl := [(0, 0), (0, 0), (0, 0), (0, 0), (3, 149), (3, 150), (3, 151), (3, 152), (3, 161), (3, 170), (3, 171), (3, 172), (3, 184), (3, 225)]) rfl hP rfl 2 (by decide) (hts _ (wg_t kw_1528)) (fun _ h9 => h9) (cd := (0, 0)) rfl dM_sign_132 (fun v57 hv61 => ?_)
                  obtain rfl := (show v57 = .int (s31.1 148 2) from hv61)
                  obtain ⟨z44, ez44, hz57, hz58⟩ := cl_of (b := 2147483648) hf168 (by omega) (by decide)
                  replace hR := bnd_step hR ez44
                  refine mi_as hz57 ?_
                  subst hz58
                  refine mi_ge (tgt := 158) hx hb dM_sign_135 (by decide) (by omega) (by omega) (fun h47 => ?_) (fun h47 => absurd h47 (by omega))
                  refine lv_aload_n hx hb dM_sign_158 rfl (lv_at hl 2 rfl) ?_
                  refine lv_iconst (v := nI 0) hx hb dM_sign_159 (by decide) ?_
                  refine nw_put (C := "LatticeKeysModel") (TT := T_M) (N := 14) hx hb hts (wg_ft i_M) ty_M k_M n_M hown hK hO hU k_h0 (kn := 148) (ci := 8) (fl := [(0, 0), (0, 0), (0, 0), (0, 0), (3, 149), (3, 150), (3, 151), (3, 152), (3, 161), (3, 170), (3, 171), (3, 172), (3, 184), (3, 225)]) rfl hP hD hS rfl 1 (by decide) (hts _ (wg_t kw_1527)) (fun _ h9 => h9) rfl (by decide +kernel) rfl dM_sign_160 (fun s32 pl H locs es29 hO hP hD hS => ?_)
                  replace hR := bnd_step hR es29
                  have hF := frm_sI hF es29 (by unfold M_M_sign; omega)
                  have hf170 : s32.1 148 3 = nI ks := fc_ne hf164 es29 (by omega)
                  have hf171 : s32.1 148 0 = nI 0 := fc_ne hf165 es29 (by omega)
                  have hf172 : s32.1 170 z21 = nI 5 := fc_ne hf166 es29 (by omega)
                  have hf173 : s32.1 171 z21 = nI z38 := fc_ne hf167 es29 (by omega)
                  have hf174 : s32.1 148 2 = nI 4627 := fc_ne hf168 es29 (by omega)
                  have hf175 : s32.1 148 1 = nI 0 := fc_eq es29
                  have hg89 : SETS ks (s32.1 170) := by rw [(ar_sI es29 (by omega))]; exact hg87
                  have hg90 : HIDS ks (s32.1 171) := by rw [(ar_sI es29 (by omega))]; exact hg88
                  refine lv_iload_n hx hb dM_sign_163 rfl (lv_at hl 1 rfl) ?_
                  exact mp_iret hx hb hr hlk hP hD hS ((z42, s32), pl) ⟨⟨hR.symm, rfl, hF, ⟨0, hf175, by omega⟩, ⟨4627, hf174, by omega⟩, ⟨ks, hf170, by omega⟩, trivial⟩, hO⟩ [] rfl rfl rfl (by omega) (by omega) dM_sign_164
                | succ n23 ih23 =>
                  intro i23 s31 pl ls H locs hm23 hF hf176 hf177 hf178 hf179 hf180 hf181 hg87 hg88 hR hl hO hP hD hS
                  refine lv_iload hx hb dM_sign_129 (lv_at hl 0 rfl) ?_
                  refine lv_aload_n hx hb dM_sign_131 rfl (lv_at hl 2 rfl) ?_
                  refine nw_get (C := "LatticeKeysModel") (TT := T_M) (N := 14) hx hb hts (wg_ft i_M) hown hK hO k_h0 (kn := 148) (ci := 8) (fl := [(0, 0), (0, 0), (0, 0), (0, 0), (3, 149), (3, 150), (3, 151), (3, 152), (3, 161), (3, 170), (3, 171), (3, 172), (3, 184), (3, 225)]) rfl hP rfl 2 (by decide) (hts _ (wg_t kw_1528)) (fun _ h9 => h9) (cd := (0, 0)) rfl dM_sign_132 (fun v58 hv62 => ?_)
                  obtain rfl := (show v58 = .int (s31.1 148 2) from hv62)
                  obtain ⟨z45, ez45, hz59, hz60⟩ := cl_of (b := 2147483648) hf181 (by omega) (by decide)
                  replace hR := bnd_step hR ez45
                  refine mi_as hz59 ?_
                  subst hz60
                  refine mi_ge (tgt := 158) hx hb dM_sign_135 (by decide) (by omega) (by omega) (fun h48 => absurd h48 (by omega)) (fun h48 => ?_)
                  refine lv_aload_n hx hb dM_sign_138 rfl (lv_at hl 2 rfl) ?_
                  refine nw_get (C := "LatticeKeysModel") (TT := T_M) (N := 14) hx hb hts (wg_ft i_M) hown hK hO k_h0 (kn := 148) (ci := 8) (fl := [(0, 0), (0, 0), (0, 0), (0, 0), (3, 149), (3, 150), (3, 151), (3, 152), (3, 161), (3, 170), (3, 171), (3, 172), (3, 184), (3, 225)]) rfl hP rfl 5 (by decide) (hts _ (wg_t kw_1531)) (fun _ h9 => h9) (cd := (3, 150)) rfl dM_sign_139 (fun v59 hv63 => ?_)
                  obtain ⟨r73, rfl, kr50⟩ := (show ∃ r : Nat, v59 = .ref r ∧ T r = some 150 from hv63)
                  refine lv_iload hx hb dM_sign_142 (lv_at hl 0 rfl) ?_
                  refine lv_aload_n hx hb dM_sign_144 rfl (lv_at hl 2 rfl) ?_
                  refine nw_get (C := "LatticeKeysModel") (TT := T_M) (N := 14) hx hb hts (wg_ft i_M) hown hK hO k_h0 (kn := 148) (ci := 8) (fl := [(0, 0), (0, 0), (0, 0), (0, 0), (3, 149), (3, 150), (3, 151), (3, 152), (3, 161), (3, 170), (3, 171), (3, 172), (3, 184), (3, 225)]) rfl hP rfl 6 (by decide) (hts _ (wg_t kw_1532)) (fun _ h9 => h9) (cd := (3, 151)) rfl dM_sign_145 (fun v60 hv64 => ?_)
                  obtain ⟨r74, rfl, kr51⟩ := (show ∃ r : Nat, v60 = .ref r ∧ T r = some 151 from hv64)
                  refine lv_iload hx hb dM_sign_148 (lv_at hl 0 rfl) ?_
                  refine nw_bald hx hb hK hO kr51 (k := 151) rfl hP (by omega) (by omega) dM_sign_150 ?_
                  refine nw_bast hx hb hK hO hU kr50 (k := 150) rfl hP hD hS (by omega) (by omega) dM_sign_151 (fun s33 pl H locs es30 hO hP hD hS => ?_)
                  replace hR := bnd_step hR es30
                  have hF := frm_sB hF es30 (by unfold M_M_sign; omega)
                  have hf182 : s33.1 148 1 = nI tp := fc_B hf176 es30 (by omega)
                  have hf183 : s33.1 148 3 = nI ks := fc_B hf177 es30 (by omega)
                  have hf184 : s33.1 148 0 = nI 0 := fc_B hf178 es30 (by omega)
                  have hf185 : s33.1 170 z21 = nI 5 := fc_B hf179 es30 (by omega)
                  have hf186 : s33.1 171 z21 = nI z38 := fc_B hf180 es30 (by omega)
                  have hf187 : s33.1 148 2 = nI 4627 := fc_B hf181 es30 (by omega)
                  have hg91 : SETS ks (s33.1 170) := by rw [(ar_sB es30 (by omega))]; exact hg87
                  have hg92 : HIDS ks (s33.1 171) := by rw [(ar_sB es30 (by omega))]; exact hg88
                  refine mi_iinc (k := 0) (x := i23) (d := 1) (y := i23 + 1) (lv' := [(4, .int (nI (i23 + 1))), (3, .int z42), (0, .ref h0)]) hx hb dM_sign_152 hl rfl (by decide) rfl (by decide) rfl (fun ls hl => ?_)
                  refine lv_goto (tgt := 129) hx hb dM_sign_155 (by decide) ?_
                  exact ih23 (i23 + 1) s33 pl ls H locs (by omega) hF hf182 hf183 hf184 hf185 hf186 hf187 hg91 hg92 hR (lv_sub hl [0, 1, 2] rfl) hO hP hD hS
              exact lp23 4627 0 s30 pl ls _ _ (by omega) hF hf156 hf158 hf159 hf160 hf161 hf162 hg85 hg86 hR (lv_sub hl [0, 1, 2] rfl) hO hP hD hS
            · replace hR := hR.trans (if_pos h46)
              refine lv_aload_n hx hb dM_sign_105 rfl (lv_at hl 1 rfl) ?_
              refine lv_iconst (v := nI 3) hx hb dM_sign_106 (by decide) ?_
              refine mp_i (cx := []) (wr := []) hP hD hS hA [] [] rfl rfl rfl (by decide) (va_runV (As := [.int (nI 3)]) (rest := []) F (N_M_fail l g _ T q42.2 pl hO hU h0 (nI 3) tp rs ks k_h0 hf144 hf145 hf146) (cwV 1 hts (wg_app (wg_c kw_1577 (wg_c kw_1579 (wg_c ks_50 (wg_c kw_9 wg_n)))) kw_1580) rfl rfl rfl (by decide +kernel) ⟨by decide, by decide⟩) (pn_W "LatticeKeysModel" (en_ok g) (ci := 8) (kn := 148) (fl := [(0, 0), (0, 0), (0, 0), (0, 0), (3, 149), (3, 150), (3, 151), (3, 152), (3, 161), (3, 170), (3, 171), (3, 172), (3, 184), (3, 225)]) hK hO k_h0 rfl hP hD hS hA hEn [] rfl rfl rfl) rfl rfl hl.1 rfl (lv_room (Nat.le_of_ble_eq_true rfl)) dM_sign_107 ⟨by omega, by omega⟩) (fun r75 u44 H locs hu44 hP hD hS => ?_)
              obtain ⟨q44, pl⟩ := u44
              obtain ⟨⟨eq44, rfl, hFc44, ⟨x92, hx_92, hb_92⟩, ⟨x93, hx_93, hb_93⟩, ⟨x94, hx_94, hb_94⟩, -⟩, hO⟩ := hu44
              have hO : okn g T q44.2 pl := hO
              have hP : va_P g.1 vcl ([] ++ pl) _ := hP
              have hD : va_D _ ([] ++ pl) := hD
              have hFc44 : frm (M_M_fail) q42.2 q44.2 := hFc44
              have hb_92 : x92 = tp := hb_92
              have hb_93 : x93 = rs := hb_93
              have hb_94 : x94 = ks := hb_94
              replace hR := bnd_step hR eq44
              have hF := frm_tr hF hFc44 (fun k hk => by unfold M_M_fail at hk; unfold M_M_sign; omega)
              have hf188 : q44.2.1 170 z21 = nI 5 := fc_F hf148 hFc44 (by unfold M_M_fail; omega)
              have hf189 : q44.2.1 171 z21 = nI z38 := fc_F hf149 hFc44 (by unfold M_M_fail; omega)
              have hg93 : SETS ks (q44.2.1 170) := by rw [hFc44 170 (by unfold M_M_fail; omega)]; exact hg81
              have hg94 : HIDS ks (q44.2.1 171) := by rw [hFc44 171 (by unfold M_M_fail; omega)]; exact hg82
              refine W.widen (k := 0) (n := 0) (by omega) (by omega) ?_
              exact mp_iret hx hb hr hlk hP hD hS ((q44.1, q44.2), pl) ⟨⟨hR.symm, rfl, hF, ⟨x92, hx_92, by omega⟩, ⟨x93, hx_93, by omega⟩, ⟨x94, hx_94, by omega⟩, trivial⟩, hO⟩ [] rfl rfl rfl (by omega) (by omega) dM_sign_110
          · replace hR := hR.trans (if_neg (Nat.not_le.mpr h45))
            replace hE := iteP_neg (Nat.not_le.mpr h45) hE
            refine lv_aload_n hx hb dM_sign_60 rfl (lv_at hl 0 rfl) ?_
            refine lv_iconst (v := nI 2) hx hb dM_sign_61 (by decide) ?_
            refine mp_i (cx := []) (wr := []) hP hD hS hA [] [] rfl rfl rfl (by decide) (va_runV (As := [.int (nI 2)]) (rest := []) F (N_M_fail l g _ T q21.2 pl hO hU h0 (nI 2) tp rs ks k_h0 hf25 hf26 hf27) (cwV 1 hts (wg_app (wg_c kw_1577 (wg_c kw_1579 (wg_c ks_50 (wg_c kw_9 wg_n)))) kw_1580) rfl rfl rfl (by decide +kernel) ⟨by decide, by decide⟩) (pn_W "LatticeKeysModel" (en_ok g) (ci := 8) (kn := 148) (fl := [(0, 0), (0, 0), (0, 0), (0, 0), (3, 149), (3, 150), (3, 151), (3, 152), (3, 161), (3, 170), (3, 171), (3, 172), (3, 184), (3, 225)]) hK hO k_h0 rfl hP hD hS hA hEn [] rfl rfl rfl) rfl rfl hl.1 rfl (lv_room (Nat.le_of_ble_eq_true rfl)) dM_sign_62 ⟨by omega, by omega⟩) (fun r76 u45 H locs hu45 hP hD hS => ?_)
            obtain ⟨q45, pl⟩ := u45
            obtain ⟨⟨eq45, rfl, hFc45, ⟨x96, hx_96, hb_96⟩, ⟨x97, hx_97, hb_97⟩, ⟨x98, hx_98, hb_98⟩, -⟩, hO⟩ := hu45
            have hO : okn g T q45.2 pl := hO
            have hP : va_P g.1 vcl ([] ++ pl) _ := hP
            have hD : va_D _ ([] ++ pl) := hD
            have hFc45 : frm (M_M_fail) q21.2 q45.2 := hFc45
            have hb_96 : x96 = tp := hb_96
            have hb_97 : x97 = rs := hb_97
            have hb_98 : x98 = ks := hb_98
            replace hR := bnd_step hR eq45
            replace hE := bndP_step hE eq45
            have hF := frm_tr hF hFc45 (fun k hk => by unfold M_M_fail at hk; unfold M_M_sign; omega)
            have hf190 : q45.2.1 170 z21 = nI 5 := fc_F hs26 hFc45 (by unfold M_M_fail; omega)
            have hf191 : q45.2.1 171 z21 = nI z38 := fc_F hz48 hFc45 (by unfold M_M_fail; omega)
            have hg95 : SETS ks (q45.2.1 170) := by rw [hFc45 170 (by unfold M_M_fail; omega)]; exact hg23
            have hg96 : HIDS ks (q45.2.1 171) := by rw [hFc45 171 (by unfold M_M_fail; omega)]; exact hg24
            refine W.widen (k := 0) (n := 0) (by omega) (by omega) ?_
            exact mp_iret hx hb hr hlk hP hD hS ((q45.1, q45.2), pl) ⟨⟨hR.symm, rfl, hF, ⟨x96, hx_96, by omega⟩, ⟨x97, hx_97, by omega⟩, ⟨x98, hx_98, by omega⟩, trivial⟩, hO⟩ [] rfl rfl rfl (by omega) (by omega) dM_sign_65
    · replace hR := hR.trans (if_pos h42)
      replace hE := iteP_pos h42 hE
      refine lv_aload_n hx hb dM_sign_32 rfl (lv_at hl 0 rfl) ?_
      refine lv_iconst (v := nI 1) hx hb dM_sign_33 (by decide) ?_
      refine mp_i (cx := []) (wr := []) hP hD hS hA [] [] rfl rfl rfl (by decide) (va_runV (As := [.int (nI 1)]) (rest := []) F (N_M_fail l g _ T q21.2 pl hO hU h0 (nI 1) tp rs ks k_h0 hf25 hf26 hf27) (cwV 1 hts (wg_app (wg_c kw_1577 (wg_c kw_1579 (wg_c ks_50 (wg_c kw_9 wg_n)))) kw_1580) rfl rfl rfl (by decide +kernel) ⟨by decide, by decide⟩) (pn_W "LatticeKeysModel" (en_ok g) (ci := 8) (kn := 148) (fl := [(0, 0), (0, 0), (0, 0), (0, 0), (3, 149), (3, 150), (3, 151), (3, 152), (3, 161), (3, 170), (3, 171), (3, 172), (3, 184), (3, 225)]) hK hO k_h0 rfl hP hD hS hA hEn [] rfl rfl rfl) rfl rfl hl.1 rfl (lv_room (Nat.le_of_ble_eq_true rfl)) dM_sign_34 ⟨by omega, by omega⟩) (fun r77 u46 H locs hu46 hP hD hS => ?_)
      obtain ⟨q46, pl⟩ := u46
      obtain ⟨⟨eq46, rfl, hFc46, ⟨x100, hx_100, hb_100⟩, ⟨x101, hx_101, hb_101⟩, ⟨x102, hx_102, hb_102⟩, -⟩, hO⟩ := hu46
      have hO : okn g T q46.2 pl := hO
      have hP : va_P g.1 vcl ([] ++ pl) _ := hP
      have hD : va_D _ ([] ++ pl) := hD
      have hFc46 : frm (M_M_fail) q21.2 q46.2 := hFc46
      have hb_100 : x100 = tp := hb_100
      have hb_101 : x101 = rs := hb_101
      have hb_102 : x102 = ks := hb_102
      replace hR := bnd_step hR eq46
      replace hE := bndP_step hE eq46
      have hF := frm_tr hF hFc46 (fun k hk => by unfold M_M_fail at hk; unfold M_M_sign; omega)
      have hf192 : q46.2.1 170 z21 = nI 5 := fc_F hs26 hFc46 (by unfold M_M_fail; omega)
      have hf193 : q46.2.1 171 z21 = nI z38 := fc_F hz48 hFc46 (by unfold M_M_fail; omega)
      have hg97 : SETS ks (q46.2.1 170) := by rw [hFc46 170 (by unfold M_M_fail; omega)]; exact hg23
      have hg98 : HIDS ks (q46.2.1 171) := by rw [hFc46 171 (by unfold M_M_fail; omega)]; exact hg24
      refine W.widen (k := 0) (n := 0) (by omega) (by omega) ?_
      exact mp_iret hx hb hr hlk hP hD hS ((q46.1, q46.2), pl) ⟨⟨hR.symm, rfl, hF, ⟨x100, hx_100, by omega⟩, ⟨x101, hx_101, by omega⟩, ⟨x102, hx_102, by omega⟩, trivial⟩, hO⟩ [] rfl rfl rfl (by omega) (by omega) dM_sign_37
