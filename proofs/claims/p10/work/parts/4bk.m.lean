set_option linter.all false
abbrev c_M_keys : ByteArray := prog_12_method_14_code
abbrev y_M_keys : MethodName := ⟨"LatticeKeysModel", "keys", "(I)I"⟩
abbrev w_M_keys : List Cond := Cond.code y_M_keys c_M_keys 2 (some .int) :: WG
theorem dM_keys_0 : decode c_M_keys 0 = .ok (.aload_n 0, 1) := by decide +kernel
theorem dM_keys_1 : decode c_M_keys 1 = .ok (.iconst 0, 1) := by decide +kernel
theorem dM_keys_2 : decode c_M_keys 2 = .ok (.putfield 57, 3) := by decide +kernel
theorem dM_keys_5 : decode c_M_keys 5 = .ok (.iload_n 1, 1) := by decide +kernel
theorem dM_keys_6 : decode c_M_keys 6 = .ok (.ifCond .lt 27, 3) := by decide +kernel
theorem dM_keys_9 : decode c_M_keys 9 = .ok (.iload_n 1, 1) := by decide +kernel
theorem dM_keys_10 : decode c_M_keys 10 = .ok (.iconst 5, 1) := by decide +kernel
theorem dM_keys_11 : decode c_M_keys 11 = .ok (.if_icmp .gt 22, 3) := by decide +kernel
theorem dM_keys_14 : decode c_M_keys 14 = .ok (.aload_n 0, 1) := by decide +kernel
theorem dM_keys_15 : decode c_M_keys 15 = .ok (.getfield 70, 3) := by decide +kernel
theorem dM_keys_18 : decode c_M_keys 18 = .ok (.iload_n 1, 1) := by decide +kernel
theorem dM_keys_19 : decode c_M_keys 19 = .ok (.iconst 3, 1) := by decide +kernel
theorem dM_keys_20 : decode c_M_keys 20 = .ok (.if_icmp .ge 8, 3) := by decide +kernel
theorem dM_keys_23 : decode c_M_keys 23 = .ok (.bipush 64, 2) := by decide +kernel
theorem dM_keys_25 : decode c_M_keys 25 = .ok (.goto 5, 3) := by decide +kernel
theorem dM_keys_28 : decode c_M_keys 28 = .ok (.bipush 32, 2) := by decide +kernel
theorem dM_keys_30 : decode c_M_keys 30 = .ok (.if_icmp .eq 9, 3) := by decide +kernel
theorem dM_keys_33 : decode c_M_keys 33 = .ok (.aload_n 0, 1) := by decide +kernel
theorem dM_keys_34 : decode c_M_keys 34 = .ok (.iconst 1, 1) := by decide +kernel
theorem dM_keys_35 : decode c_M_keys 35 = .ok (.invokevirtual 73, 3) := by decide +kernel
theorem dM_keys_38 : decode c_M_keys 38 = .ok (.ireturn, 1) := by decide +kernel
theorem dM_keys_39 : decode c_M_keys 39 = .ok (.aload_n 0, 1) := by decide +kernel
theorem dM_keys_40 : decode c_M_keys 40 = .ok (.getfield 83, 3) := by decide +kernel
theorem dM_keys_43 : decode c_M_keys 43 = .ok (.bipush 8, 2) := by decide +kernel
theorem dM_keys_45 : decode c_M_keys 45 = .ok (.if_icmp .ne 9, 3) := by decide +kernel
theorem dM_keys_48 : decode c_M_keys 48 = .ok (.aload_n 0, 1) := by decide +kernel
theorem dM_keys_49 : decode c_M_keys 49 = .ok (.iconst 2, 1) := by decide +kernel
theorem dM_keys_50 : decode c_M_keys 50 = .ok (.invokevirtual 73, 3) := by decide +kernel
theorem dM_keys_53 : decode c_M_keys 53 = .ok (.ireturn, 1) := by decide +kernel
theorem dM_keys_54 : decode c_M_keys 54 = .ok (.iload_n 1, 1) := by decide +kernel
theorem dM_keys_55 : decode c_M_keys 55 = .ok (.iconst 3, 1) := by decide +kernel
theorem dM_keys_56 : decode c_M_keys 56 = .ok (.if_icmp .ge 36, 3) := by decide +kernel
theorem dM_keys_59 : decode c_M_keys 59 = .ok (.aload_n 0, 1) := by decide +kernel
theorem dM_keys_60 : decode c_M_keys 60 = .ok (.getfield 46, 3) := by decide +kernel
theorem dM_keys_63 : decode c_M_keys 63 = .ok (.iload_n 1, 1) := by decide +kernel
theorem dM_keys_64 : decode c_M_keys 64 = .ok (.aload_n 0, 1) := by decide +kernel
theorem dM_keys_65 : decode c_M_keys 65 = .ok (.getfield 7, 3) := by decide +kernel
theorem dM_keys_68 : decode c_M_keys 68 = .ok (.aload_n 0, 1) := by decide +kernel
theorem dM_keys_69 : decode c_M_keys 69 = .ok (.getfield 21, 3) := by decide +kernel
theorem dM_keys_72 : decode c_M_keys 72 = .ok (.aload_n 0, 1) := by decide +kernel
theorem dM_keys_73 : decode c_M_keys 73 = .ok (.getfield 83, 3) := by decide +kernel
theorem dM_keys_76 : decode c_M_keys 76 = .ok (.aaload, 1) := by decide +kernel
theorem dM_keys_77 : decode c_M_keys 77 = .ok (.aload_n 0, 1) := by decide +kernel
theorem dM_keys_78 : decode c_M_keys 78 = .ok (.getfield 24, 3) := by decide +kernel
theorem dM_keys_81 : decode c_M_keys 81 = .ok (.aload_n 0, 1) := by decide +kernel
theorem dM_keys_82 : decode c_M_keys 82 = .ok (.getfield 83, 3) := by decide +kernel
theorem dM_keys_85 : decode c_M_keys 85 = .ok (.aaload, 1) := by decide +kernel
theorem dM_keys_86 : decode c_M_keys 86 = .ok (.invokevirtual 86, 3) := by decide +kernel
theorem dM_keys_89 : decode c_M_keys 89 = .ok (.goto 35, 3) := by decide +kernel
theorem dM_keys_92 : decode c_M_keys 92 = .ok (.aload_n 0, 1) := by decide +kernel
theorem dM_keys_93 : decode c_M_keys 93 = .ok (.getfield 53, 3) := by decide +kernel
theorem dM_keys_96 : decode c_M_keys 96 = .ok (.iload_n 1, 1) := by decide +kernel
theorem dM_keys_97 : decode c_M_keys 97 = .ok (.iconst 3, 1) := by decide +kernel
theorem dM_keys_98 : decode c_M_keys 98 = .ok (.isub, 1) := by decide +kernel
theorem dM_keys_99 : decode c_M_keys 99 = .ok (.aload_n 0, 1) := by decide +kernel
theorem dM_keys_100 : decode c_M_keys 100 = .ok (.getfield 7, 3) := by decide +kernel
theorem dM_keys_103 : decode c_M_keys 103 = .ok (.aload_n 0, 1) := by decide +kernel
theorem dM_keys_104 : decode c_M_keys 104 = .ok (.getfield 21, 3) := by decide +kernel
theorem dM_keys_107 : decode c_M_keys 107 = .ok (.aload_n 0, 1) := by decide +kernel
theorem dM_keys_108 : decode c_M_keys 108 = .ok (.getfield 83, 3) := by decide +kernel
theorem dM_keys_111 : decode c_M_keys 111 = .ok (.aaload, 1) := by decide +kernel
theorem dM_keys_112 : decode c_M_keys 112 = .ok (.aload_n 0, 1) := by decide +kernel
theorem dM_keys_113 : decode c_M_keys 113 = .ok (.getfield 24, 3) := by decide +kernel
theorem dM_keys_116 : decode c_M_keys 116 = .ok (.aload_n 0, 1) := by decide +kernel
theorem dM_keys_117 : decode c_M_keys 117 = .ok (.getfield 83, 3) := by decide +kernel
theorem dM_keys_120 : decode c_M_keys 120 = .ok (.aaload, 1) := by decide +kernel
theorem dM_keys_121 : decode c_M_keys 121 = .ok (.invokevirtual 89, 3) := by decide +kernel
theorem dM_keys_124 : decode c_M_keys 124 = .ok (.aload_n 0, 1) := by decide +kernel
theorem dM_keys_125 : decode c_M_keys 125 = .ok (.iload_n 1, 1) := by decide +kernel
theorem dM_keys_126 : decode c_M_keys 126 = .ok (.iload_n 1, 1) := by decide +kernel
theorem dM_keys_127 : decode c_M_keys 127 = .ok (.invokestatic 90, 3) := by decide +kernel
theorem dM_keys_130 : decode c_M_keys 130 = .ok (.invokevirtual 91, 3) := by decide +kernel
theorem dM_keys_133 : decode c_M_keys 133 = .ok (.ireturn, 1) := by decide +kernel
def M_M_keys (k : Nat) : Prop := (153 ≤ k ∧ k < 161) ∨ (162 ≤ k ∧ k < 170) ∨ (186 ≤ k ∧ k < 202) ∨ (203 ≤ k ∧ k < 207) ∨ (208 ≤ k ∧ k < 212) ∨ (227 ≤ k ∧ k < 291) ∨ (292 ≤ k ∧ k < 299) ∨ (300 ≤ k ∧ k < 308) ∨ (309 ≤ k ∧ k < 317) ∨ (318 ≤ k ∧ k < 326) ∨ (343 ≤ k ∧ k < 350) ∨ k = 148 ∨ k = 170 ∨ k = 171 ∨ k = 172 ∨ k = 219 ∨ k = 220 ∨ k = 221 ∨ k = 225 ∨ k = 369 ∨ k = 370 ∨ k = 372 ∨ (0 : Nat) = 1
noncomputable def F_M_keys (v : Int32) (s : Sto) : Int32 × Sto := bnd (sI s 148 0 (nI 0)) fun s21 => if v < 0 then bnd (F_M_fail (nI 1) s21) fun q21 => (q21.1, q21.2) else if (nI 5) < v then bnd (F_M_fail (nI 1) s21) fun q22 => (q22.1, q22.2) else bnd (v.toNatClampNeg) fun z21 => if z21 = 0 then bnd ((s21.1 148 1).toNatClampNeg) fun z22 => if z22 = 64 then bnd ((s21.1 148 3).toNatClampNeg) fun z23 => if z23 = 8 then bnd (F_M_fail (nI 2) s21) fun q25 => (q25.1, q25.2) else bnd ((s21.1 148 3).toNatClampNeg) fun z24 => bnd ((s21.1 148 3).toNatClampNeg) fun z25 => bnd (F_ME_keys_0 149 16384 (153 + z24) (162 + z25) s21) fun s22 => bnd (F_M_hiddenSize_0  s22) fun q23 => bnd (q23.1.toNatClampNeg) fun z26 => bnd (F_M_madeP 0 1632 q23.2) fun q24 => (q24.1, q24.2) else bnd (F_M_fail (nI 1) s21) fun q26 => (q26.1, q26.2) else if z21 = 1 then bnd ((s21.1 148 1).toNatClampNeg) fun z27 => if z27 = 64 then bnd ((s21.1 148 3).toNatClampNeg) fun z28 => if z28 = 8 then bnd (F_M_fail (nI 2) s21) fun q29 => (q29.1, q29.2) else bnd ((s21.1 148 3).toNatClampNeg) fun z29 => bnd ((s21.1 148 3).toNatClampNeg) fun z30 => bnd (F_ME_keys_1 149 16384 (153 + z29) (162 + z30) s21) fun s23 => bnd (F_M_hiddenSize_1  s23) fun q27 => bnd (q27.1.toNatClampNeg) fun z31 => bnd (F_M_madeP 1 2400 q27.2) fun q28 => (q28.1, q28.2) else bnd (F_M_fail (nI 1) s21) fun q30 => (q30.1, q30.2) else if z21 = 2 then bnd ((s21.1 148 1).toNatClampNeg) fun z32 => if z32 = 64 then bnd ((s21.1 148 3).toNatClampNeg) fun z33 => if z33 = 8 then bnd (F_M_fail (nI 2) s21) fun q33 => (q33.1, q33.2) else bnd ((s21.1 148 3).toNatClampNeg) fun z34 => bnd ((s21.1 148 3).toNatClampNeg) fun z35 => bnd (F_ME_keys_2 149 16384 (153 + z34) (162 + z35) s21) fun s24 => bnd (F_M_hiddenSize_2  s24) fun q31 => bnd (q31.1.toNatClampNeg) fun z36 => bnd (F_M_madeP 2 3168 q31.2) fun q32 => (q32.1, q32.2) else bnd (F_M_fail (nI 1) s21) fun q34 => (q34.1, q34.2) else if z21 = 3 then bnd ((s21.1 148 1).toNatClampNeg) fun z37 => if z37 = 32 then bnd ((s21.1 148 3).toNatClampNeg) fun z38 => if z38 = 8 then bnd (F_M_fail (nI 2) s21) fun q37 => (q37.1, q37.2) else bnd ((s21.1 148 3).toNatClampNeg) fun z39 => bnd ((s21.1 148 3).toNatClampNeg) fun z40 => bnd (F_MH_keys_0 149 16384 (153 + z39) (162 + z40) s21) fun s25 => bnd (F_M_hiddenSize_3  s25) fun q35 => bnd (q35.1.toNatClampNeg) fun z41 => bnd (F_M_madeP 3 2560 q35.2) fun q36 => (q36.1, q36.2) else bnd (F_M_fail (nI 1) s21) fun q38 => (q38.1, q38.2) else if z21 = 4 then bnd ((s21.1 148 1).toNatClampNeg) fun z42 => if z42 = 32 then bnd ((s21.1 148 3).toNatClampNeg) fun z43 => if z43 = 8 then bnd (F_M_fail (nI 2) s21) fun q41 => (q41.1, q41.2) else bnd ((s21.1 148 3).toNatClampNeg) fun z44 => bnd ((s21.1 148 3).toNatClampNeg) fun z45 => bnd (F_MH_keys_1 149 16384 (153 + z44) (162 + z45) s21) fun s26 => bnd (F_M_hiddenSize_4  s26) fun q39 => bnd (q39.1.toNatClampNeg) fun z46 => bnd (F_M_madeP 4 4032 q39.2) fun q40 => (q40.1, q40.2) else bnd (F_M_fail (nI 1) s21) fun q42 => (q42.1, q42.2) else bnd ((s21.1 148 1).toNatClampNeg) fun z47 => if z47 = 32 then bnd ((s21.1 148 3).toNatClampNeg) fun z48 => if z48 = 8 then bnd (F_M_fail (nI 2) s21) fun q45 => (q45.1, q45.2) else bnd ((s21.1 148 3).toNatClampNeg) fun z49 => bnd ((s21.1 148 3).toNatClampNeg) fun z50 => bnd (F_MH_keys_2 149 16384 (153 + z49) (162 + z50) s21) fun s27 => bnd (F_M_hiddenSize_5  s27) fun q43 => bnd (q43.1.toNatClampNeg) fun z51 => bnd (F_M_madeP 5 4896 q43.2) fun q44 => (q44.1, q44.2) else bnd (F_M_fail (nI 1) s21) fun q46 => (q46.1, q46.2)
noncomputable def E_M_keys (v : Int32) (s : Sto) : Prop := bnd (sI s 148 0 (nI 0)) fun s21 => if v < 0 then bnd (F_M_fail (nI 1) s21) fun q21 => True else if (nI 5) < v then bnd (F_M_fail (nI 1) s21) fun q22 => True else bnd (v.toNatClampNeg) fun z21 => if z21 = 0 then bnd ((s21.1 148 1).toNatClampNeg) fun z22 => if z22 = 64 then bnd ((s21.1 148 3).toNatClampNeg) fun z23 => if z23 = 8 then bnd (F_M_fail (nI 2) s21) fun q25 => True else bnd ((s21.1 148 3).toNatClampNeg) fun z24 => bnd ((s21.1 148 3).toNatClampNeg) fun z25 => (E_ME_keys_0 149 16384 (153 + z24) (162 + z25) s21) ∧ (bnd (F_ME_keys_0 149 16384 (153 + z24) (162 + z25) s21) fun s22 => bnd (F_M_hiddenSize_0  s22) fun q23 => bnd (q23.1.toNatClampNeg) fun z26 => bnd (F_M_madeP 0 1632 q23.2) fun q24 => True) else bnd (F_M_fail (nI 1) s21) fun q26 => True else if z21 = 1 then bnd ((s21.1 148 1).toNatClampNeg) fun z27 => if z27 = 64 then bnd ((s21.1 148 3).toNatClampNeg) fun z28 => if z28 = 8 then bnd (F_M_fail (nI 2) s21) fun q29 => True else bnd ((s21.1 148 3).toNatClampNeg) fun z29 => bnd ((s21.1 148 3).toNatClampNeg) fun z30 => (E_ME_keys_1 149 16384 (153 + z29) (162 + z30) s21) ∧ (bnd (F_ME_keys_1 149 16384 (153 + z29) (162 + z30) s21) fun s23 => bnd (F_M_hiddenSize_1  s23) fun q27 => bnd (q27.1.toNatClampNeg) fun z31 => bnd (F_M_madeP 1 2400 q27.2) fun q28 => True) else bnd (F_M_fail (nI 1) s21) fun q30 => True else if z21 = 2 then bnd ((s21.1 148 1).toNatClampNeg) fun z32 => if z32 = 64 then bnd ((s21.1 148 3).toNatClampNeg) fun z33 => if z33 = 8 then bnd (F_M_fail (nI 2) s21) fun q33 => True else bnd ((s21.1 148 3).toNatClampNeg) fun z34 => bnd ((s21.1 148 3).toNatClampNeg) fun z35 => (E_ME_keys_2 149 16384 (153 + z34) (162 + z35) s21) ∧ (bnd (F_ME_keys_2 149 16384 (153 + z34) (162 + z35) s21) fun s24 => bnd (F_M_hiddenSize_2  s24) fun q31 => bnd (q31.1.toNatClampNeg) fun z36 => bnd (F_M_madeP 2 3168 q31.2) fun q32 => True) else bnd (F_M_fail (nI 1) s21) fun q34 => True else if z21 = 3 then bnd ((s21.1 148 1).toNatClampNeg) fun z37 => if z37 = 32 then bnd ((s21.1 148 3).toNatClampNeg) fun z38 => if z38 = 8 then bnd (F_M_fail (nI 2) s21) fun q37 => True else bnd ((s21.1 148 3).toNatClampNeg) fun z39 => bnd ((s21.1 148 3).toNatClampNeg) fun z40 => (E_MH_keys_0 149 16384 (153 + z39) (162 + z40) s21) ∧ (bnd (F_MH_keys_0 149 16384 (153 + z39) (162 + z40) s21) fun s25 => bnd (F_M_hiddenSize_3  s25) fun q35 => bnd (q35.1.toNatClampNeg) fun z41 => bnd (F_M_madeP 3 2560 q35.2) fun q36 => True) else bnd (F_M_fail (nI 1) s21) fun q38 => True else if z21 = 4 then bnd ((s21.1 148 1).toNatClampNeg) fun z42 => if z42 = 32 then bnd ((s21.1 148 3).toNatClampNeg) fun z43 => if z43 = 8 then bnd (F_M_fail (nI 2) s21) fun q41 => True else bnd ((s21.1 148 3).toNatClampNeg) fun z44 => bnd ((s21.1 148 3).toNatClampNeg) fun z45 => (E_MH_keys_1 149 16384 (153 + z44) (162 + z45) s21) ∧ (bnd (F_MH_keys_1 149 16384 (153 + z44) (162 + z45) s21) fun s26 => bnd (F_M_hiddenSize_4  s26) fun q39 => bnd (q39.1.toNatClampNeg) fun z46 => bnd (F_M_madeP 4 4032 q39.2) fun q40 => True) else bnd (F_M_fail (nI 1) s21) fun q42 => True else bnd ((s21.1 148 1).toNatClampNeg) fun z47 => if z47 = 32 then bnd ((s21.1 148 3).toNatClampNeg) fun z48 => if z48 = 8 then bnd (F_M_fail (nI 2) s21) fun q45 => True else bnd ((s21.1 148 3).toNatClampNeg) fun z49 => bnd ((s21.1 148 3).toNatClampNeg) fun z50 => (E_MH_keys_2 149 16384 (153 + z49) (162 + z50) s21) ∧ (bnd (F_MH_keys_2 149 16384 (153 + z49) (162 + z50) s21) fun s27 => bnd (F_M_hiddenSize_5  s27) fun q43 => bnd (q43.1.toNatClampNeg) fun z51 => bnd (F_M_madeP 5 4896 q43.2) fun q44 => True) else bnd (F_M_fail (nI 1) s21) fun q46 => True
set_option maxHeartbeats 2000000 in
set_option maxRecDepth 100000 in
theorem N_M_keys (l : Launch) (g : Gd) (sz : Nat) (T : TyN) (s : Sto) (pl : va_W) (hO : okn g T s pl) (hU : inj T) (h0 : Nat) (v : Int32) (tp : Nat) (rs : Nat) (ks : Nat) (k_h0 : T h0 = some 148) (e_tp : s.1 148 1 = nI tp) (e_rs : s.1 148 2 = nI rs) (e_ks : s.1 148 3 = nI ks) (h1 : tp ≤ 16384) (h2 : rs ≤ 8192) (h3 : ks ≤ 8) (qst : SETS ks (s.1 170)) (qhd : HIDS ks (s.1 171)) (hE : E_M_keys v s)  : Met l y_M_keys w_M_keys ({ frames := 6, cells := 0, slots := 0, locals := 147 } : Room) (va_Pc [.ref h0, .int v] (pr (en g) g.1 vcl sz ([] ++ pl))) (va_Qi (fun (r : Int32) (u : (Int32 × Sto) × va_W) => (u.1 = F_M_keys v s ∧ r = u.1.1 ∧ frm (M_M_keys) s u.1.2 ∧ (∃ x : Nat, u.1.2.1 148 1 = nI x ∧ x ≤ 16384) ∧ (∃ x : Nat, u.1.2.1 148 2 = nI x ∧ x ≤ 8192) ∧ (∃ x : Nat, u.1.2.1 148 3 = nI x ∧ x ≤ 8) ∧ (∃ x : Nat, u.1.2.1 148 3 = nI x ∧ x ≤ 8 ∧ SETS x (u.1.2.1 170) ∧ HIDS x (u.1.2.1 171)) ∧ True) ∧ okn g T u.1.2 u.2) (po g.1 vcl (va_A ([] ++ pl) sz) (fun (u : (Int32 × Sto) × va_W) => [] ++ u.2)) (va_A ([] ++ pl) sz)) 0 0 (va_A ([] ++ pl) sz) := by
  refine mc_entry (cc := c_M_keys) (maxL := 2) (ret := (some .int)) (by decide) rfl (Nat.le_of_ble_eq_true rfl) ?_
  intro p e s0 m args below meth c ls F hr hlk hnm hsz hP hD hEn hA hl
  obtain ⟨hx, hb, hml, hown, hts⟩ := id F
  have hK := hEn.1
  generalize va_A ([] ++ pl) sz = A at hD hEn hA ⊢
  have hS : va_S A s0.heap s0.heap [] := va_S.rf
  have hl : lv_has ls 2 [(0, .ref h0), (1, .int v)] := hl
  have hR : F_M_keys v s = F_M_keys v s := rfl
  have hF : frm (M_M_keys) s s := frm_rf
  refine lv_aload_n hx hb dM_keys_0 rfl (lv_at hl 0 rfl) ?_
  refine lv_iconst (v := nI 0) hx hb dM_keys_1 (by decide) ?_
  refine nw_put (C := "LatticeKeysModel") (TT := T_M) (N := 14) hx hb hts (wg_ft i_M) ty_M k_M n_M hown hK hO hU k_h0 (kn := 148) (ci := 8) (fl := [(0, 0), (0, 0), (0, 0), (0, 0), (3, 149), (3, 150), (3, 151), (3, 152), (3, 161), (3, 170), (3, 171), (3, 172), (3, 184), (3, 225)]) rfl hP hD hS rfl 0 (by decide) (hts _ (wg_t kw_1526)) (fun _ h9 => h9) rfl (by decide +kernel) rfl dM_keys_2 (fun s21 pl H locs es21 hO hP hD hS => ?_)
  replace hR := bnd_step hR es21
  replace hE := bndP_step hE es21
  have hF := frm_sI hF es21 (by unfold M_M_keys; omega)
  have hf21 : s21.1 148 1 = nI tp := fc_ne e_tp es21 (by omega)
  have hf22 : s21.1 148 2 = nI rs := fc_ne e_rs es21 (by omega)
  have hf23 : s21.1 148 3 = nI ks := fc_ne e_ks es21 (by omega)
  have hf24 : s21.1 148 0 = nI 0 := fc_eq es21
  have hg21 : SETS ks (s21.1 170) := by rw [(ar_sI es21 (by omega))]; exact qst
  have hg22 : HIDS ks (s21.1 171) := by rw [(ar_sI es21 (by omega))]; exact qhd
  refine lv_iload_n hx hb dM_keys_5 rfl (lv_at hl 1 rfl) ?_
  refine lv_if_lt (tgt := 33) hx hb dM_keys_6 (by decide) (fun h21 => ?_) (fun h21 => ?_)
  · replace hR := hR.trans (if_pos h21)
    replace hE := iteP_pos h21 hE
    refine lv_aload_n hx hb dM_keys_33 rfl (lv_at hl 0 rfl) ?_
    refine lv_iconst (v := nI 1) hx hb dM_keys_34 (by decide) ?_
    refine mp_i (cx := []) (wr := []) hP hD hS hA [] [] rfl rfl rfl (by decide) (va_runV (As := [.int (nI 1)]) (rest := []) F (N_M_fail l g _ T s21 pl hO hU h0 (nI 1) tp rs ks k_h0 hf21 hf22 hf23) (cwV 1 hts (wg_app (wg_c kw_1577 (wg_c kw_1579 (wg_c ks_50 (wg_c kw_9 wg_n)))) kw_1580) rfl rfl rfl (by decide +kernel) ⟨by decide, by decide⟩) (pn_W "LatticeKeysModel" (en_ok g) (ci := 8) (kn := 148) (fl := [(0, 0), (0, 0), (0, 0), (0, 0), (3, 149), (3, 150), (3, 151), (3, 152), (3, 161), (3, 170), (3, 171), (3, 172), (3, 184), (3, 225)]) hK hO k_h0 rfl hP hD hS hA hEn [] rfl rfl rfl) rfl rfl hl.1 rfl (lv_room (Nat.le_of_ble_eq_true rfl)) dM_keys_35 ⟨by omega, by omega⟩) (fun r21 u21 H locs hu21 hP hD hS => ?_)
    obtain ⟨q21, pl⟩ := u21
    obtain ⟨⟨eq21, rfl, hFc21, ⟨x21, hx_21, hb_21⟩, ⟨x22, hx_22, hb_22⟩, ⟨x23, hx_23, hb_23⟩, -⟩, hO⟩ := hu21
    have hO : okn g T q21.2 pl := hO
    have hP : va_P g.1 vcl ([] ++ pl) _ := hP
    have hD : va_D _ ([] ++ pl) := hD
    have hFc21 : frm (M_M_fail) s21 q21.2 := hFc21
    have hb_21 : x21 = tp := hb_21
    have hb_22 : x22 = rs := hb_22
    have hb_23 : x23 = ks := hb_23
    replace hR := bnd_step hR eq21
    replace hE := bndP_step hE eq21
    have hF := frm_tr hF hFc21 (fun k hk => by unfold M_M_fail at hk; unfold M_M_keys; omega)
    have hg23 : SETS ks (q21.2.1 170) := by rw [hFc21 170 (by unfold M_M_fail; omega)]; exact hg21
    have hg24 : HIDS ks (q21.2.1 171) := by rw [hFc21 171 (by unfold M_M_fail; omega)]; exact hg22
    refine W.widen (k := 0) (n := 0) (by omega) (by omega) ?_
    exact mp_iret hx hb hr hlk hP hD hS ((q21.1, q21.2), pl) ⟨⟨hR.symm, rfl, hF, ⟨x21, hx_21, by omega⟩, ⟨x22, hx_22, by omega⟩, ⟨x23, hx_23, by omega⟩, ⟨ks, (hx_23).trans (congrArg nI (show x23 = ks by omega)), by omega, hg23, hg24⟩, trivial⟩, hO⟩ [] rfl rfl rfl (by omega) (by omega) dM_keys_38
  · replace hR := hR.trans (if_neg h21)
    replace hE := iteP_neg h21 hE
    refine lv_iload_n hx hb dM_keys_9 rfl (lv_at hl 1 rfl) ?_
    refine lv_iconst (v := nI 5) hx hb dM_keys_10 (by decide) ?_
    refine lv_icmp_gt (tgt := 33) hx hb dM_keys_11 (by decide) (fun h22 => ?_) (fun h22 => ?_)
    · replace hR := hR.trans (if_pos h22)
      replace hE := iteP_pos h22 hE
      refine lv_aload_n hx hb dM_keys_33 rfl (lv_at hl 0 rfl) ?_
      refine lv_iconst (v := nI 1) hx hb dM_keys_34 (by decide) ?_
      refine mp_i (cx := []) (wr := []) hP hD hS hA [] [] rfl rfl rfl (by decide) (va_runV (As := [.int (nI 1)]) (rest := []) F (N_M_fail l g _ T s21 pl hO hU h0 (nI 1) tp rs ks k_h0 hf21 hf22 hf23) (cwV 1 hts (wg_app (wg_c kw_1577 (wg_c kw_1579 (wg_c ks_50 (wg_c kw_9 wg_n)))) kw_1580) rfl rfl rfl (by decide +kernel) ⟨by decide, by decide⟩) (pn_W "LatticeKeysModel" (en_ok g) (ci := 8) (kn := 148) (fl := [(0, 0), (0, 0), (0, 0), (0, 0), (3, 149), (3, 150), (3, 151), (3, 152), (3, 161), (3, 170), (3, 171), (3, 172), (3, 184), (3, 225)]) hK hO k_h0 rfl hP hD hS hA hEn [] rfl rfl rfl) rfl rfl hl.1 rfl (lv_room (Nat.le_of_ble_eq_true rfl)) dM_keys_35 ⟨by omega, by omega⟩) (fun r22 u22 H locs hu22 hP hD hS => ?_)
      obtain ⟨q22, pl⟩ := u22
      obtain ⟨⟨eq22, rfl, hFc22, ⟨x25, hx_25, hb_25⟩, ⟨x26, hx_26, hb_26⟩, ⟨x27, hx_27, hb_27⟩, -⟩, hO⟩ := hu22
      have hO : okn g T q22.2 pl := hO
      have hP : va_P g.1 vcl ([] ++ pl) _ := hP
      have hD : va_D _ ([] ++ pl) := hD
      have hFc22 : frm (M_M_fail) s21 q22.2 := hFc22
      have hb_25 : x25 = tp := hb_25
      have hb_26 : x26 = rs := hb_26
      have hb_27 : x27 = ks := hb_27
      replace hR := bnd_step hR eq22
      replace hE := bndP_step hE eq22
      have hF := frm_tr hF hFc22 (fun k hk => by unfold M_M_fail at hk; unfold M_M_keys; omega)
      have hg25 : SETS ks (q22.2.1 170) := by rw [hFc22 170 (by unfold M_M_fail; omega)]; exact hg21
      have hg26 : HIDS ks (q22.2.1 171) := by rw [hFc22 171 (by unfold M_M_fail; omega)]; exact hg22
      refine W.widen (k := 0) (n := 0) (by omega) (by omega) ?_
      exact mp_iret hx hb hr hlk hP hD hS ((q22.1, q22.2), pl) ⟨⟨hR.symm, rfl, hF, ⟨x25, hx_25, by omega⟩, ⟨x26, hx_26, by omega⟩, ⟨x27, hx_27, by omega⟩, ⟨ks, (hx_27).trans (congrArg nI (show x27 = ks by omega)), by omega, hg25, hg26⟩, trivial⟩, hO⟩ [] rfl rfl rfl (by omega) (by omega) dM_keys_38
    · replace hR := hR.trans (if_neg h22)
      replace hE := iteP_neg h22 hE
      obtain ⟨z21, hz21, hv21⟩ := i32_lex h21 (by omega) h22
      have ez21 : z21 = v.toNatClampNeg := by rw [hv21]; exact (nI_clamp (by omega)).symm
      replace hR := bnd_step hR ez21
      replace hE := bndP_step hE ez21
      rw [hv21] at hl
      by_cases hs21 : z21 = 0
      · replace hR := hR.trans (if_pos hs21)
        replace hE := iteP_pos hs21 hE
        subst hs21
        refine lv_aload_n hx hb dM_keys_14 rfl (lv_at hl 0 rfl) ?_
        refine nw_get (C := "LatticeKeysModel") (TT := T_M) (N := 14) hx hb hts (wg_ft i_M) hown hK hO k_h0 (kn := 148) (ci := 8) (fl := [(0, 0), (0, 0), (0, 0), (0, 0), (3, 149), (3, 150), (3, 151), (3, 152), (3, 161), (3, 170), (3, 171), (3, 172), (3, 184), (3, 225)]) rfl hP rfl 1 (by decide) (hts _ (wg_t kw_1527)) (fun _ h9 => h9) (cd := (0, 0)) rfl dM_keys_15 (fun v21 hv22 => ?_)
        obtain rfl := (show v21 = .int (s21.1 148 1) from hv22)
        obtain ⟨z22, ez22, hz22, hz23⟩ := cl_of (b := 2147483648) hf21 (by omega) (by decide)
        replace hR := bnd_step hR ez22
        replace hE := bndP_step hE ez22
        refine mi_as hz22 ?_
        refine lv_iload_n hx hb dM_keys_18 rfl (lv_at hl 1 rfl) ?_
        refine lv_iconst (v := nI 3) hx hb dM_keys_19 (by decide) ?_
        refine mi_ge (tgt := 28) hx hb dM_keys_20 (by decide) (by omega) (by omega) (fun h23 => absurd h23 (by omega)) (fun h23 => ?_)
        refine lv_bipush (v := nI 64) hx hb dM_keys_23 (by decide) ?_
        refine lv_goto (tgt := 30) hx hb dM_keys_25 (by decide) ?_
        refine mi_eq (tgt := 39) hx hb dM_keys_30 (by decide) (by omega) (by omega) (fun h24 => ?_) (fun h24 => ?_)
        · replace hR := hR.trans (if_pos h24)
          replace hE := iteP_pos h24 hE
          refine lv_aload_n hx hb dM_keys_39 rfl (lv_at hl 0 rfl) ?_
          refine nw_get (C := "LatticeKeysModel") (TT := T_M) (N := 14) hx hb hts (wg_ft i_M) hown hK hO k_h0 (kn := 148) (ci := 8) (fl := [(0, 0), (0, 0), (0, 0), (0, 0), (3, 149), (3, 150), (3, 151), (3, 152), (3, 161), (3, 170), (3, 171), (3, 172), (3, 184), (3, 225)]) rfl hP rfl 3 (by decide) (hts _ (wg_t kw_1529)) (fun _ h9 => h9) (cd := (0, 0)) rfl dM_keys_40 (fun v22 hv23 => ?_)
          obtain rfl := (show v22 = .int (s21.1 148 3) from hv23)
          obtain ⟨z23, ez23, hz24, hz25⟩ := cl_of (b := 2147483648) hf23 (by omega) (by decide)
          replace hR := bnd_step hR ez23
          replace hE := bndP_step hE ez23
          refine mi_as hz24 ?_
          refine lv_bipush (v := nI 8) hx hb dM_keys_43 (by decide) ?_
          refine mi_ne (tgt := 54) hx hb dM_keys_45 (by decide) (by omega) (by omega) (fun h25 => ?_) (fun h25 => ?_)
          · replace hR := hR.trans (if_neg h25)
            replace hE := iteP_neg h25 hE
            refine lv_iload_n hx hb dM_keys_54 rfl (lv_at hl 1 rfl) ?_
            refine lv_iconst (v := nI 3) hx hb dM_keys_55 (by decide) ?_
            refine mi_ge (tgt := 92) hx hb dM_keys_56 (by decide) (by omega) (by omega) (fun h26 => absurd h26 (by omega)) (fun h26 => ?_)
            refine lv_aload_n hx hb dM_keys_59 rfl (lv_at hl 0 rfl) ?_
            refine nw_get (C := "LatticeKeysModel") (TT := T_M) (N := 14) hx hb hts (wg_ft i_M) hown hK hO k_h0 (kn := 148) (ci := 8) (fl := [(0, 0), (0, 0), (0, 0), (0, 0), (3, 149), (3, 150), (3, 151), (3, 152), (3, 161), (3, 170), (3, 171), (3, 172), (3, 184), (3, 225)]) rfl hP rfl 12 (by decide) (hts _ (wg_t kw_1538)) (fun _ h9 => h9) (cd := (3, 184)) rfl dM_keys_60 (fun v23 hv24 => ?_)
            obtain ⟨r23, rfl, kr21⟩ := (show ∃ r : Nat, v23 = .ref r ∧ T r = some 184 from hv24)
            refine lv_iload_n hx hb dM_keys_63 rfl (lv_at hl 1 rfl) ?_
            refine lv_aload_n hx hb dM_keys_64 rfl (lv_at hl 0 rfl) ?_
            refine nw_get (C := "LatticeKeysModel") (TT := T_M) (N := 14) hx hb hts (wg_ft i_M) hown hK hO k_h0 (kn := 148) (ci := 8) (fl := [(0, 0), (0, 0), (0, 0), (0, 0), (3, 149), (3, 150), (3, 151), (3, 152), (3, 161), (3, 170), (3, 171), (3, 172), (3, 184), (3, 225)]) rfl hP rfl 4 (by decide) (hts _ (wg_t kw_1530)) (fun _ h9 => h9) (cd := (3, 149)) rfl dM_keys_65 (fun v24 hv25 => ?_)
            obtain ⟨r24, rfl, kr22⟩ := (show ∃ r : Nat, v24 = .ref r ∧ T r = some 149 from hv25)
            refine lv_aload_n hx hb dM_keys_68 rfl (lv_at hl 0 rfl) ?_
            refine nw_get (C := "LatticeKeysModel") (TT := T_M) (N := 14) hx hb hts (wg_ft i_M) hown hK hO k_h0 (kn := 148) (ci := 8) (fl := [(0, 0), (0, 0), (0, 0), (0, 0), (3, 149), (3, 150), (3, 151), (3, 152), (3, 161), (3, 170), (3, 171), (3, 172), (3, 184), (3, 225)]) rfl hP rfl 7 (by decide) (hts _ (wg_t kw_1533)) (fun _ h9 => h9) (cd := (3, 152)) rfl dM_keys_69 (fun v25 hv26 => ?_)
            obtain ⟨r25, rfl, kr23⟩ := (show ∃ r : Nat, v25 = .ref r ∧ T r = some 152 from hv26)
            refine lv_aload_n hx hb dM_keys_72 rfl (lv_at hl 0 rfl) ?_
            refine nw_get (C := "LatticeKeysModel") (TT := T_M) (N := 14) hx hb hts (wg_ft i_M) hown hK hO k_h0 (kn := 148) (ci := 8) (fl := [(0, 0), (0, 0), (0, 0), (0, 0), (3, 149), (3, 150), (3, 151), (3, 152), (3, 161), (3, 170), (3, 171), (3, 172), (3, 184), (3, 225)]) rfl hP rfl 3 (by decide) (hts _ (wg_t kw_1529)) (fun _ h9 => h9) (cd := (0, 0)) rfl dM_keys_73 (fun v26 hv27 => ?_)
            obtain rfl := (show v26 = .int (s21.1 148 3) from hv27)
            obtain ⟨z24, ez24, hz26, hz27⟩ := cl_of (b := 2147483648) hf23 (by omega) (by decide)
            replace hR := bnd_step hR ez24
            replace hE := bndP_step hE ez24
            refine mi_as hz26 ?_
            refine nw_aald4 hx hb hK hO kr23 (k := 152) (b := 153) rfl hP (by omega) (by omega) dM_keys_76 (fun r26 kr24 => ?_)
            have hn21 : nsp (153 + z24) = (1, 2592, []) := rows_okb 153 8 2592 (by decide) _ (by omega)
            refine lv_aload_n hx hb dM_keys_77 rfl (lv_at hl 0 rfl) ?_
            refine nw_get (C := "LatticeKeysModel") (TT := T_M) (N := 14) hx hb hts (wg_ft i_M) hown hK hO k_h0 (kn := 148) (ci := 8) (fl := [(0, 0), (0, 0), (0, 0), (0, 0), (3, 149), (3, 150), (3, 151), (3, 152), (3, 161), (3, 170), (3, 171), (3, 172), (3, 184), (3, 225)]) rfl hP rfl 8 (by decide) (hts _ (wg_t kw_1534)) (fun _ h9 => h9) (cd := (3, 161)) rfl dM_keys_78 (fun v27 hv28 => ?_)
            obtain ⟨r27, rfl, kr25⟩ := (show ∃ r : Nat, v27 = .ref r ∧ T r = some 161 from hv28)
            refine lv_aload_n hx hb dM_keys_81 rfl (lv_at hl 0 rfl) ?_
            refine nw_get (C := "LatticeKeysModel") (TT := T_M) (N := 14) hx hb hts (wg_ft i_M) hown hK hO k_h0 (kn := 148) (ci := 8) (fl := [(0, 0), (0, 0), (0, 0), (0, 0), (3, 149), (3, 150), (3, 151), (3, 152), (3, 161), (3, 170), (3, 171), (3, 172), (3, 184), (3, 225)]) rfl hP rfl 3 (by decide) (hts _ (wg_t kw_1529)) (fun _ h9 => h9) (cd := (0, 0)) rfl dM_keys_82 (fun v28 hv29 => ?_)
            obtain rfl := (show v28 = .int (s21.1 148 3) from hv29)
            obtain ⟨z25, ez25, hz28, hz29⟩ := cl_of (b := 2147483648) hf23 (by omega) (by decide)
            replace hR := bnd_step hR ez25
            replace hE := bndP_step hE ez25
            refine mi_as hz28 ?_
            refine nw_aald4 hx hb hK hO kr25 (k := 161) (b := 162) rfl hP (by omega) (by omega) dM_keys_85 (fun r28 kr26 => ?_)
            have hn22 : nsp (162 + z25) = (1, 4896, []) := rows_okb 162 8 4896 (by decide) _ (by omega)
            refine mp_v (cx := []) (wr := []) hP hD hS hA [] [] rfl rfl rfl (by decide) (va_runV (As := [.int (nI 0), .ref r24, .ref r26, .ref r28]) (rest := []) F (N_ME_keys_0 l g _ T s21 pl hO hU r23 r24 r26 r28 149 16384 (153 + z24) (162 + z25) kr21 kr22 rfl kr24 hn21 kr26 hn22 (by omega) (by omega) hE.1) (cwV 4 hts (wg_app (wg_c kw_1601 (wg_c kw_1602 (wg_c kw_1603 (wg_c kw_11 wg_n)))) kw_1604) rfl rfl rfl (by decide +kernel) ⟨by decide, by decide⟩) (pn_W "LatticeKeysModel$Secrets" (en_ok g) (ci := 11) (kn := 184) (fl := [(3, 172), (3, 178), (3, 185), (3, 202), (3, 207), (3, 212), (3, 217), (3, 218), (3, 219), (3, 220), (3, 221), (3, 222), (3, 223), (3, 224)]) hK hO kr21 rfl hP hD hS hA hEn [] rfl rfl rfl) rfl rfl hl.1 rfl (lv_room (Nat.le_of_ble_eq_true rfl)) dM_keys_86 ⟨by omega, by omega⟩) (fun  u23 H locs hu23 hP hD hS => ?_)
            obtain ⟨s22, pl⟩ := u23
            obtain ⟨⟨eq23, hFc23, -⟩, hO⟩ := hu23
            have hO : okn g T s22 pl := hO
            have hP : va_P g.1 vcl ([] ++ pl) _ := hP
            have hD : va_D _ ([] ++ pl) := hD
            have hFc23 : frm (M_ME_keys_0 (153 + z24) (162 + z25)) s21 s22 := hFc23
            clear hE
            replace hR := bnd_step hR eq23
            have hF := frm_tr hF hFc23 (fun k hk => by unfold M_ME_keys_0 at hk; unfold M_M_keys; omega)
            have hf25 : s22.1 148 1 = nI tp := fc_F hf21 hFc23 (by unfold M_ME_keys_0; omega)
            have hf26 : s22.1 148 2 = nI rs := fc_F hf22 hFc23 (by unfold M_ME_keys_0; omega)
            have hf27 : s22.1 148 3 = nI ks := fc_F hf23 hFc23 (by unfold M_ME_keys_0; omega)
            have hf28 : s22.1 148 0 = nI 0 := fc_F hf24 hFc23 (by unfold M_ME_keys_0; omega)
            have hg27 : SETS ks (s22.1 170) := by rw [hFc23 170 (by unfold M_ME_keys_0; omega)]; exact hg21
            have hg28 : HIDS ks (s22.1 171) := by rw [hFc23 171 (by unfold M_ME_keys_0; omega)]; exact hg22
            refine W.widen (k := 0) (n := 0) (by omega) (by omega) ?_
            refine lv_goto (tgt := 124) hx hb dM_keys_89 (by decide) ?_
            refine lv_aload_n hx hb dM_keys_124 rfl (lv_at hl 0 rfl) ?_
            refine lv_iload_n hx hb dM_keys_125 rfl (lv_at hl 1 rfl) ?_
            refine lv_iload_n hx hb dM_keys_126 rfl (lv_at hl 1 rfl) ?_
            refine mp_i (cx := []) (wr := []) hP hD hS hA [] [] rfl rfl rfl (by decide) (va_runS (As := [.int (nI 0)]) (rest := [.int (nI 0), .ref h0]) F (N_M_hiddenSize_0 l g _ T s22 pl hO hU ) (va_cwS 1 hts (wg_app (wg_c kw_1747 (wg_c kw_1748 (wg_c kw_9 wg_n))) kw_1749) rfl rfl rfl (by decide +kernel) ⟨by decide, by decide⟩) (pp_S (en_ok g) hP hD hS hA hEn [] rfl rfl) rfl rfl hl.1 rfl (lv_room (Nat.le_of_ble_eq_true rfl)) dM_keys_127 ⟨by omega, by omega⟩) (fun r29 u24 H locs hu24 hP hD hS => ?_)
            obtain ⟨q23, pl⟩ := u24
            obtain ⟨⟨eq24, rfl, hFc24, ⟨x30, hx_30, hb_30⟩, hxp24, -⟩, hO⟩ := hu24
            have hO : okn g T q23.2 pl := hO
            have hP : va_P g.1 vcl ([] ++ pl) _ := hP
            have hD : va_D _ ([] ++ pl) := hD
            have hFc24 : frm (M_M_hiddenSize_0) s22 q23.2 := hFc24
            have hb_30 : x30 < 1633 := hb_30
            replace hR := bnd_step hR eq24
            have hF := frm_tr hF hFc24 (fun k hk => by unfold M_M_hiddenSize_0 at hk; unfold M_M_keys; omega)
            have hf29 : q23.2.1 148 1 = nI tp := fc_F hf25 hFc24 (by unfold M_M_hiddenSize_0; omega)
            have hf30 : q23.2.1 148 2 = nI rs := fc_F hf26 hFc24 (by unfold M_M_hiddenSize_0; omega)
            have hf31 : q23.2.1 148 3 = nI ks := fc_F hf27 hFc24 (by unfold M_M_hiddenSize_0; omega)
            have hf32 : q23.2.1 148 0 = nI 0 := fc_F hf28 hFc24 (by unfold M_M_hiddenSize_0; omega)
            have hg29 : SETS ks (q23.2.1 170) := by rw [hFc24 170 (by unfold M_M_hiddenSize_0; omega)]; exact hg27
            have hg30 : HIDS ks (q23.2.1 171) := by rw [hFc24 171 (by unfold M_M_hiddenSize_0; omega)]; exact hg28
            obtain ⟨z26, ez26, hz30, hz31⟩ := cl_of (b := 2147483648) hx_30 (by omega) (by decide)
            replace hR := bnd_step hR ez26
            refine mi_as hz30 ?_
            have hsz21 : z26 = 1632 := (nI_eq (by omega) (by omega)).mp (hz30.symm.trans hxp24)
            subst hsz21
            refine W.widen (k := 0) (n := 0) (by omega) (by omega) ?_
            refine mp_i (cx := []) (wr := []) hP hD hS hA [] [] rfl rfl rfl (by decide) (va_runV (As := [.int (nI 0), .int (nI 1632)]) (rest := []) F (N_M_madeP l g _ T q23.2 pl hO hU h0 0 1632 tp rs ks k_h0 hf29 hf30 hf31 (by omega) (by omega) (by omega) hg29 hg30) (cwV 2 hts (wg_app (wg_c kw_1756 (wg_c kw_1758 (wg_c ks_64 (wg_c kw_9 wg_n)))) kw_1759) rfl rfl rfl (by decide +kernel) ⟨by decide, by decide⟩) (pn_W "LatticeKeysModel" (en_ok g) (ci := 8) (kn := 148) (fl := [(0, 0), (0, 0), (0, 0), (0, 0), (3, 149), (3, 150), (3, 151), (3, 152), (3, 161), (3, 170), (3, 171), (3, 172), (3, 184), (3, 225)]) hK hO k_h0 rfl hP hD hS hA hEn [] rfl rfl rfl) rfl rfl hl.1 rfl (lv_room (Nat.le_of_ble_eq_true rfl)) dM_keys_130 ⟨by omega, by omega⟩) (fun r30 u25 H locs hu25 hP hD hS => ?_)
            obtain ⟨q24, pl⟩ := u25
            obtain ⟨⟨eq25, rfl, hFc25, ⟨x31, hx_31, hb_31⟩, ⟨x32, hx_32, hb_32⟩, ⟨x33, hx_33, hb_33⟩, hxp25, -⟩, hO⟩ := hu25
            have hO : okn g T q24.2 pl := hO
            have hP : va_P g.1 vcl ([] ++ pl) _ := hP
            have hD : va_D _ ([] ++ pl) := hD
            have hFc25 : frm (M_M_madeP) q23.2 q24.2 := hFc25
            have hb_31 : x31 = 0 := hb_31
            have hb_32 : x32 = rs := hb_32
            have hb_33 : x33 = ks + 1 := hb_33
            replace hR := bnd_step hR eq25
            have hF := frm_tr hF hFc25 (fun k hk => by unfold M_M_madeP at hk; unfold M_M_keys; omega)
            refine W.widen (k := 0) (n := 0) (by omega) (by omega) ?_
            exact mp_iret hx hb hr hlk hP hD hS ((q24.1, q24.2), pl) ⟨⟨hR.symm, rfl, hF, ⟨x31, hx_31, by omega⟩, ⟨x32, hx_32, by omega⟩, ⟨x33, hx_33, by omega⟩, (by obtain ⟨x9, h9, e9, a9, b9⟩ := hxp25; subst e9; exact ⟨_, h9, by omega, a9, b9⟩), trivial⟩, hO⟩ [] rfl rfl rfl (by omega) (by omega) dM_keys_133
          · replace hR := hR.trans (if_pos h25)
            replace hE := iteP_pos h25 hE
            refine lv_aload_n hx hb dM_keys_48 rfl (lv_at hl 0 rfl) ?_
            refine lv_iconst (v := nI 2) hx hb dM_keys_49 (by decide) ?_
            refine mp_i (cx := []) (wr := []) hP hD hS hA [] [] rfl rfl rfl (by decide) (va_runV (As := [.int (nI 2)]) (rest := []) F (N_M_fail l g _ T s21 pl hO hU h0 (nI 2) tp rs ks k_h0 hf21 hf22 hf23) (cwV 1 hts (wg_app (wg_c kw_1577 (wg_c kw_1579 (wg_c ks_50 (wg_c kw_9 wg_n)))) kw_1580) rfl rfl rfl (by decide +kernel) ⟨by decide, by decide⟩) (pn_W "LatticeKeysModel" (en_ok g) (ci := 8) (kn := 148) (fl := [(0, 0), (0, 0), (0, 0), (0, 0), (3, 149), (3, 150), (3, 151), (3, 152), (3, 161), (3, 170), (3, 171), (3, 172), (3, 184), (3, 225)]) hK hO k_h0 rfl hP hD hS hA hEn [] rfl rfl rfl) rfl rfl hl.1 rfl (lv_room (Nat.le_of_ble_eq_true rfl)) dM_keys_50 ⟨by omega, by omega⟩) (fun r31 u26 H locs hu26 hP hD hS => ?_)
            obtain ⟨q25, pl⟩ := u26
            obtain ⟨⟨eq26, rfl, hFc26, ⟨x35, hx_35, hb_35⟩, ⟨x36, hx_36, hb_36⟩, ⟨x37, hx_37, hb_37⟩, -⟩, hO⟩ := hu26
            have hO : okn g T q25.2 pl := hO
            have hP : va_P g.1 vcl ([] ++ pl) _ := hP
            have hD : va_D _ ([] ++ pl) := hD
            have hFc26 : frm (M_M_fail) s21 q25.2 := hFc26
            have hb_35 : x35 = tp := hb_35
            have hb_36 : x36 = rs := hb_36
            have hb_37 : x37 = ks := hb_37
            replace hR := bnd_step hR eq26
            replace hE := bndP_step hE eq26
            have hF := frm_tr hF hFc26 (fun k hk => by unfold M_M_fail at hk; unfold M_M_keys; omega)
            have hg31 : SETS ks (q25.2.1 170) := by rw [hFc26 170 (by unfold M_M_fail; omega)]; exact hg21
            have hg32 : HIDS ks (q25.2.1 171) := by rw [hFc26 171 (by unfold M_M_fail; omega)]; exact hg22
            refine W.widen (k := 0) (n := 0) (by omega) (by omega) ?_
            exact mp_iret hx hb hr hlk hP hD hS ((q25.1, q25.2), pl) ⟨⟨hR.symm, rfl, hF, ⟨x35, hx_35, by omega⟩, ⟨x36, hx_36, by omega⟩, ⟨x37, hx_37, by omega⟩, ⟨ks, (hx_37).trans (congrArg nI (show x37 = ks by omega)), by omega, hg31, hg32⟩, trivial⟩, hO⟩ [] rfl rfl rfl (by omega) (by omega) dM_keys_53
        · replace hR := hR.trans (if_neg h24)
          replace hE := iteP_neg h24 hE
          refine lv_aload_n hx hb dM_keys_33 rfl (lv_at hl 0 rfl) ?_
          refine lv_iconst (v := nI 1) hx hb dM_keys_34 (by decide) ?_
          refine mp_i (cx := []) (wr := []) hP hD hS hA [] [] rfl rfl rfl (by decide) (va_runV (As := [.int (nI 1)]) (rest := []) F (N_M_fail l g _ T s21 pl hO hU h0 (nI 1) tp rs ks k_h0 hf21 hf22 hf23) (cwV 1 hts (wg_app (wg_c kw_1577 (wg_c kw_1579 (wg_c ks_50 (wg_c kw_9 wg_n)))) kw_1580) rfl rfl rfl (by decide +kernel) ⟨by decide, by decide⟩) (pn_W "LatticeKeysModel" (en_ok g) (ci := 8) (kn := 148) (fl := [(0, 0), (0, 0), (0, 0), (0, 0), (3, 149), (3, 150), (3, 151), (3, 152), (3, 161), (3, 170), (3, 171), (3, 172), (3, 184), (3, 225)]) hK hO k_h0 rfl hP hD hS hA hEn [] rfl rfl rfl) rfl rfl hl.1 rfl (lv_room (Nat.le_of_ble_eq_true rfl)) dM_keys_35 ⟨by omega, by omega⟩) (fun r32 u27 H locs hu27 hP hD hS => ?_)
          obtain ⟨q26, pl⟩ := u27
          obtain ⟨⟨eq27, rfl, hFc27, ⟨x39, hx_39, hb_39⟩, ⟨x40, hx_40, hb_40⟩, ⟨x41, hx_41, hb_41⟩, -⟩, hO⟩ := hu27
          have hO : okn g T q26.2 pl := hO
          have hP : va_P g.1 vcl ([] ++ pl) _ := hP
          have hD : va_D _ ([] ++ pl) := hD
          have hFc27 : frm (M_M_fail) s21 q26.2 := hFc27
          have hb_39 : x39 = tp := hb_39
          have hb_40 : x40 = rs := hb_40
          have hb_41 : x41 = ks := hb_41
          replace hR := bnd_step hR eq27
          replace hE := bndP_step hE eq27
          have hF := frm_tr hF hFc27 (fun k hk => by unfold M_M_fail at hk; unfold M_M_keys; omega)
          have hg33 : SETS ks (q26.2.1 170) := by rw [hFc27 170 (by unfold M_M_fail; omega)]; exact hg21
          have hg34 : HIDS ks (q26.2.1 171) := by rw [hFc27 171 (by unfold M_M_fail; omega)]; exact hg22
          refine W.widen (k := 0) (n := 0) (by omega) (by omega) ?_
          exact mp_iret hx hb hr hlk hP hD hS ((q26.1, q26.2), pl) ⟨⟨hR.symm, rfl, hF, ⟨x39, hx_39, by omega⟩, ⟨x40, hx_40, by omega⟩, ⟨x41, hx_41, by omega⟩, ⟨ks, (hx_41).trans (congrArg nI (show x41 = ks by omega)), by omega, hg33, hg34⟩, trivial⟩, hO⟩ [] rfl rfl rfl (by omega) (by omega) dM_keys_38
      replace hR := hR.trans (if_neg hs21)
      replace hE := iteP_neg hs21 hE
      by_cases hs22 : z21 = 1
      · replace hR := hR.trans (if_pos hs22)
        replace hE := iteP_pos hs22 hE
        subst hs22
        refine lv_aload_n hx hb dM_keys_14 rfl (lv_at hl 0 rfl) ?_
        refine nw_get (C := "LatticeKeysModel") (TT := T_M) (N := 14) hx hb hts (wg_ft i_M) hown hK hO k_h0 (kn := 148) (ci := 8) (fl := [(0, 0), (0, 0), (0, 0), (0, 0), (3, 149), (3, 150), (3, 151), (3, 152), (3, 161), (3, 170), (3, 171), (3, 172), (3, 184), (3, 225)]) rfl hP rfl 1 (by decide) (hts _ (wg_t kw_1527)) (fun _ h9 => h9) (cd := (0, 0)) rfl dM_keys_15 (fun v29 hv30 => ?_)
        obtain rfl := (show v29 = .int (s21.1 148 1) from hv30)
        obtain ⟨z27, ez27, hz32, hz33⟩ := cl_of (b := 2147483648) hf21 (by omega) (by decide)
        replace hR := bnd_step hR ez27
        replace hE := bndP_step hE ez27
        refine mi_as hz32 ?_
        refine lv_iload_n hx hb dM_keys_18 rfl (lv_at hl 1 rfl) ?_
        refine lv_iconst (v := nI 3) hx hb dM_keys_19 (by decide) ?_
        refine mi_ge (tgt := 28) hx hb dM_keys_20 (by decide) (by omega) (by omega) (fun h27 => absurd h27 (by omega)) (fun h27 => ?_)
        refine lv_bipush (v := nI 64) hx hb dM_keys_23 (by decide) ?_
        refine lv_goto (tgt := 30) hx hb dM_keys_25 (by decide) ?_
        refine mi_eq (tgt := 39) hx hb dM_keys_30 (by decide) (by omega) (by omega) (fun h28 => ?_) (fun h28 => ?_)
        · replace hR := hR.trans (if_pos h28)
          replace hE := iteP_pos h28 hE
          refine lv_aload_n hx hb dM_keys_39 rfl (lv_at hl 0 rfl) ?_
          refine nw_get (C := "LatticeKeysModel") (TT := T_M) (N := 14) hx hb hts (wg_ft i_M) hown hK hO k_h0 (kn := 148) (ci := 8) (fl := [(0, 0), (0, 0), (0, 0), (0, 0), (3, 149), (3, 150), (3, 151), (3, 152), (3, 161), (3, 170), (3, 171), (3, 172), (3, 184), (3, 225)]) rfl hP rfl 3 (by decide) (hts _ (wg_t kw_1529)) (fun _ h9 => h9) (cd := (0, 0)) rfl dM_keys_40 (fun v30 hv31 => ?_)
          obtain rfl := (show v30 = .int (s21.1 148 3) from hv31)
          obtain ⟨z28, ez28, hz34, hz35⟩ := cl_of (b := 2147483648) hf23 (by omega) (by decide)
          replace hR := bnd_step hR ez28
          replace hE := bndP_step hE ez28
          refine mi_as hz34 ?_
          refine lv_bipush (v := nI 8) hx hb dM_keys_43 (by decide) ?_
          refine mi_ne (tgt := 54) hx hb dM_keys_45 (by decide) (by omega) (by omega) (fun h29 => ?_) (fun h29 => ?_)
          · replace hR := hR.trans (if_neg h29)
            replace hE := iteP_neg h29 hE
            refine lv_iload_n hx hb dM_keys_54 rfl (lv_at hl 1 rfl) ?_
            refine lv_iconst (v := nI 3) hx hb dM_keys_55 (by decide) ?_
            refine mi_ge (tgt := 92) hx hb dM_keys_56 (by decide) (by omega) (by omega) (fun h30 => absurd h30 (by omega)) (fun h30 => ?_)
            refine lv_aload_n hx hb dM_keys_59 rfl (lv_at hl 0 rfl) ?_
            refine nw_get (C := "LatticeKeysModel") (TT := T_M) (N := 14) hx hb hts (wg_ft i_M) hown hK hO k_h0 (kn := 148) (ci := 8) (fl := [(0, 0), (0, 0), (0, 0), (0, 0), (3, 149), (3, 150), (3, 151), (3, 152), (3, 161), (3, 170), (3, 171), (3, 172), (3, 184), (3, 225)]) rfl hP rfl 12 (by decide) (hts _ (wg_t kw_1538)) (fun _ h9 => h9) (cd := (3, 184)) rfl dM_keys_60 (fun v31 hv32 => ?_)
            obtain ⟨r33, rfl, kr27⟩ := (show ∃ r : Nat, v31 = .ref r ∧ T r = some 184 from hv32)
            refine lv_iload_n hx hb dM_keys_63 rfl (lv_at hl 1 rfl) ?_
            refine lv_aload_n hx hb dM_keys_64 rfl (lv_at hl 0 rfl) ?_
            refine nw_get (C := "LatticeKeysModel") (TT := T_M) (N := 14) hx hb hts (wg_ft i_M) hown hK hO k_h0 (kn := 148) (ci := 8) (fl := [(0, 0), (0, 0), (0, 0), (0, 0), (3, 149), (3, 150), (3, 151), (3, 152), (3, 161), (3, 170), (3, 171), (3, 172), (3, 184), (3, 225)]) rfl hP rfl 4 (by decide) (hts _ (wg_t kw_1530)) (fun _ h9 => h9) (cd := (3, 149)) rfl dM_keys_65 (fun v32 hv33 => ?_)
            obtain ⟨r34, rfl, kr28⟩ := (show ∃ r : Nat, v32 = .ref r ∧ T r = some 149 from hv33)
            refine lv_aload_n hx hb dM_keys_68 rfl (lv_at hl 0 rfl) ?_
            refine nw_get (C := "LatticeKeysModel") (TT := T_M) (N := 14) hx hb hts (wg_ft i_M) hown hK hO k_h0 (kn := 148) (ci := 8) (fl := [(0, 0), (0, 0), (0, 0), (0, 0), (3, 149), (3, 150), (3, 151), (3, 152), (3, 161), (3, 170), (3, 171), (3, 172), (3, 184), (3, 225)]) rfl hP rfl 7 (by decide) (hts _ (wg_t kw_1533)) (fun _ h9 => h9) (cd := (3, 152)) rfl dM_keys_69 (fun v33 hv34 => ?_)
            obtain ⟨r35, rfl, kr29⟩ := (show ∃ r : Nat, v33 = .ref r ∧ T r = some 152 from hv34)
            refine lv_aload_n hx hb dM_keys_72 rfl (lv_at hl 0 rfl) ?_
            refine nw_get (C := "LatticeKeysModel") (TT := T_M) (N := 14) hx hb hts (wg_ft i_M) hown hK hO k_h0 (kn := 148) (ci := 8) (fl := [(0, 0), (0, 0), (0, 0), (0, 0), (3, 149), (3, 150), (3, 151), (3, 152), (3, 161), (3, 170), (3, 171), (3, 172), (3, 184), (3, 225)]) rfl hP rfl 3 (by decide) (hts _ (wg_t kw_1529)) (fun _ h9 => h9) (cd := (0, 0)) rfl dM_keys_73 (fun v34 hv35 => ?_)
            obtain rfl := (show v34 = .int (s21.1 148 3) from hv35)
            obtain ⟨z29, ez29, hz36, hz37⟩ := cl_of (b := 2147483648) hf23 (by omega) (by decide)
            replace hR := bnd_step hR ez29
            replace hE := bndP_step hE ez29
            refine mi_as hz36 ?_
            refine nw_aald4 hx hb hK hO kr29 (k := 152) (b := 153) rfl hP (by omega) (by omega) dM_keys_76 (fun r36 kr30 => ?_)
            have hn23 : nsp (153 + z29) = (1, 2592, []) := rows_okb 153 8 2592 (by decide) _ (by omega)
            refine lv_aload_n hx hb dM_keys_77 rfl (lv_at hl 0 rfl) ?_
            refine nw_get (C := "LatticeKeysModel") (TT := T_M) (N := 14) hx hb hts (wg_ft i_M) hown hK hO k_h0 (kn := 148) (ci := 8) (fl := [(0, 0), (0, 0), (0, 0), (0, 0), (3, 149), (3, 150), (3, 151), (3, 152), (3, 161), (3, 170), (3, 171), (3, 172), (3, 184), (3, 225)]) rfl hP rfl 8 (by decide) (hts _ (wg_t kw_1534)) (fun _ h9 => h9) (cd := (3, 161)) rfl dM_keys_78 (fun v35 hv36 => ?_)
            obtain ⟨r37, rfl, kr31⟩ := (show ∃ r : Nat, v35 = .ref r ∧ T r = some 161 from hv36)
            refine lv_aload_n hx hb dM_keys_81 rfl (lv_at hl 0 rfl) ?_
            refine nw_get (C := "LatticeKeysModel") (TT := T_M) (N := 14) hx hb hts (wg_ft i_M) hown hK hO k_h0 (kn := 148) (ci := 8) (fl := [(0, 0), (0, 0), (0, 0), (0, 0), (3, 149), (3, 150), (3, 151), (3, 152), (3, 161), (3, 170), (3, 171), (3, 172), (3, 184), (3, 225)]) rfl hP rfl 3 (by decide) (hts _ (wg_t kw_1529)) (fun _ h9 => h9) (cd := (0, 0)) rfl dM_keys_82 (fun v36 hv37 => ?_)
            obtain rfl := (show v36 = .int (s21.1 148 3) from hv37)
            obtain ⟨z30, ez30, hz38, hz39⟩ := cl_of (b := 2147483648) hf23 (by omega) (by decide)
            replace hR := bnd_step hR ez30
            replace hE := bndP_step hE ez30
            refine mi_as hz38 ?_
            refine nw_aald4 hx hb hK hO kr31 (k := 161) (b := 162) rfl hP (by omega) (by omega) dM_keys_85 (fun r38 kr32 => ?_)
            have hn24 : nsp (162 + z30) = (1, 4896, []) := rows_okb 162 8 4896 (by decide) _ (by omega)
            refine mp_v (cx := []) (wr := []) hP hD hS hA [] [] rfl rfl rfl (by decide) (va_runV (As := [.int (nI 1), .ref r34, .ref r36, .ref r38]) (rest := []) F (N_ME_keys_1 l g _ T s21 pl hO hU r33 r34 r36 r38 149 16384 (153 + z29) (162 + z30) kr27 kr28 rfl kr30 hn23 kr32 hn24 (by omega) (by omega) hE.1) (cwV 4 hts (wg_app (wg_c kw_1601 (wg_c kw_1602 (wg_c kw_1603 (wg_c kw_11 wg_n)))) kw_1604) rfl rfl rfl (by decide +kernel) ⟨by decide, by decide⟩) (pn_W "LatticeKeysModel$Secrets" (en_ok g) (ci := 11) (kn := 184) (fl := [(3, 172), (3, 178), (3, 185), (3, 202), (3, 207), (3, 212), (3, 217), (3, 218), (3, 219), (3, 220), (3, 221), (3, 222), (3, 223), (3, 224)]) hK hO kr27 rfl hP hD hS hA hEn [] rfl rfl rfl) rfl rfl hl.1 rfl (lv_room (Nat.le_of_ble_eq_true rfl)) dM_keys_86 ⟨by omega, by omega⟩) (fun  u28 H locs hu28 hP hD hS => ?_)
            obtain ⟨s23, pl⟩ := u28
            obtain ⟨⟨eq28, hFc28, -⟩, hO⟩ := hu28
            have hO : okn g T s23 pl := hO
            have hP : va_P g.1 vcl ([] ++ pl) _ := hP
            have hD : va_D _ ([] ++ pl) := hD
            have hFc28 : frm (M_ME_keys_1 (153 + z29) (162 + z30)) s21 s23 := hFc28
            clear hE
            replace hR := bnd_step hR eq28
            have hF := frm_tr hF hFc28 (fun k hk => by unfold M_ME_keys_1 at hk; unfold M_M_keys; omega)
            have hf33 : s23.1 148 1 = nI tp := fc_F hf21 hFc28 (by unfold M_ME_keys_1; omega)
            have hf34 : s23.1 148 2 = nI rs := fc_F hf22 hFc28 (by unfold M_ME_keys_1; omega)
            have hf35 : s23.1 148 3 = nI ks := fc_F hf23 hFc28 (by unfold M_ME_keys_1; omega)
            have hf36 : s23.1 148 0 = nI 0 := fc_F hf24 hFc28 (by unfold M_ME_keys_1; omega)
            have hg35 : SETS ks (s23.1 170) := by rw [hFc28 170 (by unfold M_ME_keys_1; omega)]; exact hg21
            have hg36 : HIDS ks (s23.1 171) := by rw [hFc28 171 (by unfold M_ME_keys_1; omega)]; exact hg22
            refine W.widen (k := 0) (n := 0) (by omega) (by omega) ?_
            refine lv_goto (tgt := 124) hx hb dM_keys_89 (by decide) ?_
            refine lv_aload_n hx hb dM_keys_124 rfl (lv_at hl 0 rfl) ?_
            refine lv_iload_n hx hb dM_keys_125 rfl (lv_at hl 1 rfl) ?_
            refine lv_iload_n hx hb dM_keys_126 rfl (lv_at hl 1 rfl) ?_
            refine mp_i (cx := []) (wr := []) hP hD hS hA [] [] rfl rfl rfl (by decide) (va_runS (As := [.int (nI 1)]) (rest := [.int (nI 1), .ref h0]) F (N_M_hiddenSize_1 l g _ T s23 pl hO hU ) (va_cwS 1 hts (wg_app (wg_c kw_1747 (wg_c kw_1748 (wg_c kw_9 wg_n))) kw_1749) rfl rfl rfl (by decide +kernel) ⟨by decide, by decide⟩) (pp_S (en_ok g) hP hD hS hA hEn [] rfl rfl) rfl rfl hl.1 rfl (lv_room (Nat.le_of_ble_eq_true rfl)) dM_keys_127 ⟨by omega, by omega⟩) (fun r39 u29 H locs hu29 hP hD hS => ?_)
            obtain ⟨q27, pl⟩ := u29
            obtain ⟨⟨eq29, rfl, hFc29, ⟨x44, hx_44, hb_44⟩, hxp29, -⟩, hO⟩ := hu29
            have hO : okn g T q27.2 pl := hO
            have hP : va_P g.1 vcl ([] ++ pl) _ := hP
            have hD : va_D _ ([] ++ pl) := hD
            have hFc29 : frm (M_M_hiddenSize_1) s23 q27.2 := hFc29
            have hb_44 : x44 < 2401 := hb_44
            replace hR := bnd_step hR eq29
            have hF := frm_tr hF hFc29 (fun k hk => by unfold M_M_hiddenSize_1 at hk; unfold M_M_keys; omega)
            have hf37 : q27.2.1 148 1 = nI tp := fc_F hf33 hFc29 (by unfold M_M_hiddenSize_1; omega)
            have hf38 : q27.2.1 148 2 = nI rs := fc_F hf34 hFc29 (by unfold M_M_hiddenSize_1; omega)
            have hf39 : q27.2.1 148 3 = nI ks := fc_F hf35 hFc29 (by unfold M_M_hiddenSize_1; omega)
            have hf40 : q27.2.1 148 0 = nI 0 := fc_F hf36 hFc29 (by unfold M_M_hiddenSize_1; omega)
            have hg37 : SETS ks (q27.2.1 170) := by rw [hFc29 170 (by unfold M_M_hiddenSize_1; omega)]; exact hg35
            have hg38 : HIDS ks (q27.2.1 171) := by rw [hFc29 171 (by unfold M_M_hiddenSize_1; omega)]; exact hg36
            obtain ⟨z31, ez31, hz40, hz41⟩ := cl_of (b := 2147483648) hx_44 (by omega) (by decide)
            replace hR := bnd_step hR ez31
            refine mi_as hz40 ?_
            have hsz22 : z31 = 2400 := (nI_eq (by omega) (by omega)).mp (hz40.symm.trans hxp29)
            subst hsz22
            refine W.widen (k := 0) (n := 0) (by omega) (by omega) ?_
            refine mp_i (cx := []) (wr := []) hP hD hS hA [] [] rfl rfl rfl (by decide) (va_runV (As := [.int (nI 1), .int (nI 2400)]) (rest := []) F (N_M_madeP l g _ T q27.2 pl hO hU h0 1 2400 tp rs ks k_h0 hf37 hf38 hf39 (by omega) (by omega) (by omega) hg37 hg38) (cwV 2 hts (wg_app (wg_c kw_1756 (wg_c kw_1758 (wg_c ks_64 (wg_c kw_9 wg_n)))) kw_1759) rfl rfl rfl (by decide +kernel) ⟨by decide, by decide⟩) (pn_W "LatticeKeysModel" (en_ok g) (ci := 8) (kn := 148) (fl := [(0, 0), (0, 0), (0, 0), (0, 0), (3, 149), (3, 150), (3, 151), (3, 152), (3, 161), (3, 170), (3, 171), (3, 172), (3, 184), (3, 225)]) hK hO k_h0 rfl hP hD hS hA hEn [] rfl rfl rfl) rfl rfl hl.1 rfl (lv_room (Nat.le_of_ble_eq_true rfl)) dM_keys_130 ⟨by omega, by omega⟩) (fun r40 u30 H locs hu30 hP hD hS => ?_)
            obtain ⟨q28, pl⟩ := u30
            obtain ⟨⟨eq30, rfl, hFc30, ⟨x45, hx_45, hb_45⟩, ⟨x46, hx_46, hb_46⟩, ⟨x47, hx_47, hb_47⟩, hxp30, -⟩, hO⟩ := hu30
            have hO : okn g T q28.2 pl := hO
            have hP : va_P g.1 vcl ([] ++ pl) _ := hP
            have hD : va_D _ ([] ++ pl) := hD
            have hFc30 : frm (M_M_madeP) q27.2 q28.2 := hFc30
            have hb_45 : x45 = 0 := hb_45
            have hb_46 : x46 = rs := hb_46
            have hb_47 : x47 = ks + 1 := hb_47
            replace hR := bnd_step hR eq30
            have hF := frm_tr hF hFc30 (fun k hk => by unfold M_M_madeP at hk; unfold M_M_keys; omega)
            refine W.widen (k := 0) (n := 0) (by omega) (by omega) ?_
            exact mp_iret hx hb hr hlk hP hD hS ((q28.1, q28.2), pl) ⟨⟨hR.symm, rfl, hF, ⟨x45, hx_45, by omega⟩, ⟨x46, hx_46, by omega⟩, ⟨x47, hx_47, by omega⟩, (by obtain ⟨x9, h9, e9, a9, b9⟩ := hxp30; subst e9; exact ⟨_, h9, by omega, a9, b9⟩), trivial⟩, hO⟩ [] rfl rfl rfl (by omega) (by omega) dM_keys_133
          · replace hR := hR.trans (if_pos h29)
            replace hE := iteP_pos h29 hE
            refine lv_aload_n hx hb dM_keys_48 rfl (lv_at hl 0 rfl) ?_
            refine lv_iconst (v := nI 2) hx hb dM_keys_49 (by decide) ?_
            refine mp_i (cx := []) (wr := []) hP hD hS hA [] [] rfl rfl rfl (by decide) (va_runV (As := [.int (nI 2)]) (rest := []) F (N_M_fail l g _ T s21 pl hO hU h0 (nI 2) tp rs ks k_h0 hf21 hf22 hf23) (cwV 1 hts (wg_app (wg_c kw_1577 (wg_c kw_1579 (wg_c ks_50 (wg_c kw_9 wg_n)))) kw_1580) rfl rfl rfl (by decide +kernel) ⟨by decide, by decide⟩) (pn_W "LatticeKeysModel" (en_ok g) (ci := 8) (kn := 148) (fl := [(0, 0), (0, 0), (0, 0), (0, 0), (3, 149), (3, 150), (3, 151), (3, 152), (3, 161), (3, 170), (3, 171), (3, 172), (3, 184), (3, 225)]) hK hO k_h0 rfl hP hD hS hA hEn [] rfl rfl rfl) rfl rfl hl.1 rfl (lv_room (Nat.le_of_ble_eq_true rfl)) dM_keys_50 ⟨by omega, by omega⟩) (fun r41 u31 H locs hu31 hP hD hS => ?_)
            obtain ⟨q29, pl⟩ := u31
            obtain ⟨⟨eq31, rfl, hFc31, ⟨x49, hx_49, hb_49⟩, ⟨x50, hx_50, hb_50⟩, ⟨x51, hx_51, hb_51⟩, -⟩, hO⟩ := hu31
            have hO : okn g T q29.2 pl := hO
            have hP : va_P g.1 vcl ([] ++ pl) _ := hP
            have hD : va_D _ ([] ++ pl) := hD
            have hFc31 : frm (M_M_fail) s21 q29.2 := hFc31
            have hb_49 : x49 = tp := hb_49
            have hb_50 : x50 = rs := hb_50
            have hb_51 : x51 = ks := hb_51
            replace hR := bnd_step hR eq31
            replace hE := bndP_step hE eq31
            have hF := frm_tr hF hFc31 (fun k hk => by unfold M_M_fail at hk; unfold M_M_keys; omega)
            have hg39 : SETS ks (q29.2.1 170) := by rw [hFc31 170 (by unfold M_M_fail; omega)]; exact hg21
            have hg40 : HIDS ks (q29.2.1 171) := by rw [hFc31 171 (by unfold M_M_fail; omega)]; exact hg22
            refine W.widen (k := 0) (n := 0) (by omega) (by omega) ?_
            exact mp_iret hx hb hr hlk hP hD hS ((q29.1, q29.2), pl) ⟨⟨hR.symm, rfl, hF, ⟨x49, hx_49, by omega⟩, ⟨x50, hx_50, by omega⟩, ⟨x51, hx_51, by omega⟩, ⟨ks, (hx_51).trans (congrArg nI (show x51 = ks by omega)), by omega, hg39, hg40⟩, trivial⟩, hO⟩ [] rfl rfl rfl (by omega) (by omega) dM_keys_53
        · replace hR := hR.trans (if_neg h28)
          replace hE := iteP_neg h28 hE
          refine lv_aload_n hx hb dM_keys_33 rfl (lv_at hl 0 rfl) ?_
          refine lv_iconst (v := nI 1) hx hb dM_keys_34 (by decide) ?_
          refine mp_i (cx := []) (wr := []) hP hD hS hA [] [] rfl rfl rfl (by decide) (va_runV (As := [.int (nI 1)]) (rest := []) F (N_M_fail l g _ T s21 pl hO hU h0 (nI 1) tp rs ks k_h0 hf21 hf22 hf23) (cwV 1 hts (wg_app (wg_c kw_1577 (wg_c kw_1579 (wg_c ks_50 (wg_c kw_9 wg_n)))) kw_1580) rfl rfl rfl (by decide +kernel) ⟨by decide, by decide⟩) (pn_W "LatticeKeysModel" (en_ok g) (ci := 8) (kn := 148) (fl := [(0, 0), (0, 0), (0, 0), (0, 0), (3, 149), (3, 150), (3, 151), (3, 152), (3, 161), (3, 170), (3, 171), (3, 172), (3, 184), (3, 225)]) hK hO k_h0 rfl hP hD hS hA hEn [] rfl rfl rfl) rfl rfl hl.1 rfl (lv_room (Nat.le_of_ble_eq_true rfl)) dM_keys_35 ⟨by omega, by omega⟩) (fun r42 u32 H locs hu32 hP hD hS => ?_)
          obtain ⟨q30, pl⟩ := u32
          obtain ⟨⟨eq32, rfl, hFc32, ⟨x53, hx_53, hb_53⟩, ⟨x54, hx_54, hb_54⟩, ⟨x55, hx_55, hb_55⟩, -⟩, hO⟩ := hu32
          have hO : okn g T q30.2 pl := hO
          have hP : va_P g.1 vcl ([] ++ pl) _ := hP
          have hD : va_D _ ([] ++ pl) := hD
          have hFc32 : frm (M_M_fail) s21 q30.2 := hFc32
          have hb_53 : x53 = tp := hb_53
          have hb_54 : x54 = rs := hb_54
          have hb_55 : x55 = ks := hb_55
          replace hR := bnd_step hR eq32
          replace hE := bndP_step hE eq32
          have hF := frm_tr hF hFc32 (fun k hk => by unfold M_M_fail at hk; unfold M_M_keys; omega)
          have hg41 : SETS ks (q30.2.1 170) := by rw [hFc32 170 (by unfold M_M_fail; omega)]; exact hg21
          have hg42 : HIDS ks (q30.2.1 171) := by rw [hFc32 171 (by unfold M_M_fail; omega)]; exact hg22
          refine W.widen (k := 0) (n := 0) (by omega) (by omega) ?_
          exact mp_iret hx hb hr hlk hP hD hS ((q30.1, q30.2), pl) ⟨⟨hR.symm, rfl, hF, ⟨x53, hx_53, by omega⟩, ⟨x54, hx_54, by omega⟩, ⟨x55, hx_55, by omega⟩, ⟨ks, (hx_55).trans (congrArg nI (show x55 = ks by omega)), by omega, hg41, hg42⟩, trivial⟩, hO⟩ [] rfl rfl rfl (by omega) (by omega) dM_keys_38
      replace hR := hR.trans (if_neg hs22)
      replace hE := iteP_neg hs22 hE
      by_cases hs23 : z21 = 2
      · replace hR := hR.trans (if_pos hs23)
        replace hE := iteP_pos hs23 hE
        subst hs23
        refine lv_aload_n hx hb dM_keys_14 rfl (lv_at hl 0 rfl) ?_
        refine nw_get (C := "LatticeKeysModel") (TT := T_M) (N := 14) hx hb hts (wg_ft i_M) hown hK hO k_h0 (kn := 148) (ci := 8) (fl := [(0, 0), (0, 0), (0, 0), (0, 0), (3, 149), (3, 150), (3, 151), (3, 152), (3, 161), (3, 170), (3, 171), (3, 172), (3, 184), (3, 225)]) rfl hP rfl 1 (by decide) (hts _ (wg_t kw_1527)) (fun _ h9 => h9) (cd := (0, 0)) rfl dM_keys_15 (fun v37 hv38 => ?_)
        obtain rfl := (show v37 = .int (s21.1 148 1) from hv38)
        obtain ⟨z32, ez32, hz42, hz43⟩ := cl_of (b := 2147483648) hf21 (by omega) (by decide)
        replace hR := bnd_step hR ez32
        replace hE := bndP_step hE ez32
        refine mi_as hz42 ?_
        refine lv_iload_n hx hb dM_keys_18 rfl (lv_at hl 1 rfl) ?_
        refine lv_iconst (v := nI 3) hx hb dM_keys_19 (by decide) ?_
        refine mi_ge (tgt := 28) hx hb dM_keys_20 (by decide) (by omega) (by omega) (fun h31 => absurd h31 (by omega)) (fun h31 => ?_)
        refine lv_bipush (v := nI 64) hx hb dM_keys_23 (by decide) ?_
        refine lv_goto (tgt := 30) hx hb dM_keys_25 (by decide) ?_
        refine mi_eq (tgt := 39) hx hb dM_keys_30 (by decide) (by omega) (by omega) (fun h32 => ?_) (fun h32 => ?_)
        · replace hR := hR.trans (if_pos h32)
          replace hE := iteP_pos h32 hE
          refine lv_aload_n hx hb dM_keys_39 rfl (lv_at hl 0 rfl) ?_
          refine nw_get (C := "LatticeKeysModel") (TT := T_M) (N := 14) hx hb hts (wg_ft i_M) hown hK hO k_h0 (kn := 148) (ci := 8) (fl := [(0, 0), (0, 0), (0, 0), (0, 0), (3, 149), (3, 150), (3, 151), (3, 152), (3, 161), (3, 170), (3, 171), (3, 172), (3, 184), (3, 225)]) rfl hP rfl 3 (by decide) (hts _ (wg_t kw_1529)) (fun _ h9 => h9) (cd := (0, 0)) rfl dM_keys_40 (fun v38 hv39 => ?_)
          obtain rfl := (show v38 = .int (s21.1 148 3) from hv39)
          obtain ⟨z33, ez33, hz44, hz45⟩ := cl_of (b := 2147483648) hf23 (by omega) (by decide)
          replace hR := bnd_step hR ez33
          replace hE := bndP_step hE ez33
          refine mi_as hz44 ?_
          refine lv_bipush (v := nI 8) hx hb dM_keys_43 (by decide) ?_
          refine mi_ne (tgt := 54) hx hb dM_keys_45 (by decide) (by omega) (by omega) (fun h33 => ?_) (fun h33 => ?_)
          · replace hR := hR.trans (if_neg h33)
            replace hE := iteP_neg h33 hE
            refine lv_iload_n hx hb dM_keys_54 rfl (lv_at hl 1 rfl) ?_
            refine lv_iconst (v := nI 3) hx hb dM_keys_55 (by decide) ?_
            refine mi_ge (tgt := 92) hx hb dM_keys_56 (by decide) (by omega) (by omega) (fun h34 => absurd h34 (by omega)) (fun h34 => ?_)
            refine lv_aload_n hx hb dM_keys_59 rfl (lv_at hl 0 rfl) ?_
            refine nw_get (C := "LatticeKeysModel") (TT := T_M) (N := 14) hx hb hts (wg_ft i_M) hown hK hO k_h0 (kn := 148) (ci := 8) (fl := [(0, 0), (0, 0), (0, 0), (0, 0), (3, 149), (3, 150), (3, 151), (3, 152), (3, 161), (3, 170), (3, 171), (3, 172), (3, 184), (3, 225)]) rfl hP rfl 12 (by decide) (hts _ (wg_t kw_1538)) (fun _ h9 => h9) (cd := (3, 184)) rfl dM_keys_60 (fun v39 hv40 => ?_)
            obtain ⟨r43, rfl, kr33⟩ := (show ∃ r : Nat, v39 = .ref r ∧ T r = some 184 from hv40)
            refine lv_iload_n hx hb dM_keys_63 rfl (lv_at hl 1 rfl) ?_
            refine lv_aload_n hx hb dM_keys_64 rfl (lv_at hl 0 rfl) ?_
            refine nw_get (C := "LatticeKeysModel") (TT := T_M) (N := 14) hx hb hts (wg_ft i_M) hown hK hO k_h0 (kn := 148) (ci := 8) (fl := [(0, 0), (0, 0), (0, 0), (0, 0), (3, 149), (3, 150), (3, 151), (3, 152), (3, 161), (3, 170), (3, 171), (3, 172), (3, 184), (3, 225)]) rfl hP rfl 4 (by decide) (hts _ (wg_t kw_1530)) (fun _ h9 => h9) (cd := (3, 149)) rfl dM_keys_65 (fun v40 hv41 => ?_)
            obtain ⟨r44, rfl, kr34⟩ := (show ∃ r : Nat, v40 = .ref r ∧ T r = some 149 from hv41)
            refine lv_aload_n hx hb dM_keys_68 rfl (lv_at hl 0 rfl) ?_
            refine nw_get (C := "LatticeKeysModel") (TT := T_M) (N := 14) hx hb hts (wg_ft i_M) hown hK hO k_h0 (kn := 148) (ci := 8) (fl := [(0, 0), (0, 0), (0, 0), (0, 0), (3, 149), (3, 150), (3, 151), (3, 152), (3, 161), (3, 170), (3, 171), (3, 172), (3, 184), (3, 225)]) rfl hP rfl 7 (by decide) (hts _ (wg_t kw_1533)) (fun _ h9 => h9) (cd := (3, 152)) rfl dM_keys_69 (fun v41 hv42 => ?_)
            obtain ⟨r45, rfl, kr35⟩ := (show ∃ r : Nat, v41 = .ref r ∧ T r = some 152 from hv42)
            refine lv_aload_n hx hb dM_keys_72 rfl (lv_at hl 0 rfl) ?_
            refine nw_get (C := "LatticeKeysModel") (TT := T_M) (N := 14) hx hb hts (wg_ft i_M) hown hK hO k_h0 (kn := 148) (ci := 8) (fl := [(0, 0), (0, 0), (0, 0), (0, 0), (3, 149), (3, 150), (3, 151), (3, 152), (3, 161), (3, 170), (3, 171), (3, 172), (3, 184), (3, 225)]) rfl hP rfl 3 (by decide) (hts _ (wg_t kw_1529)) (fun _ h9 => h9) (cd := (0, 0)) rfl dM_keys_73 (fun v42 hv43 => ?_)
            obtain rfl := (show v42 = .int (s21.1 148 3) from hv43)
            obtain ⟨z34, ez34, hz46, hz47⟩ := cl_of (b := 2147483648) hf23 (by omega) (by decide)
            replace hR := bnd_step hR ez34
            replace hE := bndP_step hE ez34
            refine mi_as hz46 ?_
            refine nw_aald4 hx hb hK hO kr35 (k := 152) (b := 153) rfl hP (by omega) (by omega) dM_keys_76 (fun r46 kr36 => ?_)
            have hn25 : nsp (153 + z34) = (1, 2592, []) := rows_okb 153 8 2592 (by decide) _ (by omega)
            refine lv_aload_n hx hb dM_keys_77 rfl (lv_at hl 0 rfl) ?_
            refine nw_get (C := "LatticeKeysModel") (TT := T_M) (N := 14) hx hb hts (wg_ft i_M) hown hK hO k_h0 (kn := 148) (ci := 8) (fl := [(0, 0), (0, 0), (0, 0), (0, 0), (3, 149), (3, 150), (3, 151), (3, 152), (3, 161), (3, 170), (3, 171), (3, 172), (3, 184), (3, 225)]) rfl hP rfl 8 (by decide) (hts _ (wg_t kw_1534)) (fun _ h9 => h9) (cd := (3, 161)) rfl dM_keys_78 (fun v43 hv44 => ?_)
            obtain ⟨r47, rfl, kr37⟩ := (show ∃ r : Nat, v43 = .ref r ∧ T r = some 161 from hv44)
            refine lv_aload_n hx hb dM_keys_81 rfl (lv_at hl 0 rfl) ?_
            refine nw_get (C := "LatticeKeysModel") (TT := T_M) (N := 14) hx hb hts (wg_ft i_M) hown hK hO k_h0 (kn := 148) (ci := 8) (fl := [(0, 0), (0, 0), (0, 0), (0, 0), (3, 149), (3, 150), (3, 151), (3, 152), (3, 161), (3, 170), (3, 171), (3, 172), (3, 184), (3, 225)]) rfl hP rfl 3 (by decide) (hts _ (wg_t kw_1529)) (fun _ h9 => h9) (cd := (0, 0)) rfl dM_keys_82 (fun v44 hv45 => ?_)
            obtain rfl := (show v44 = .int (s21.1 148 3) from hv45)
            obtain ⟨z35, ez35, hz48, hz49⟩ := cl_of (b := 2147483648) hf23 (by omega) (by decide)
            replace hR := bnd_step hR ez35
            replace hE := bndP_step hE ez35
            refine mi_as hz48 ?_
            refine nw_aald4 hx hb hK hO kr37 (k := 161) (b := 162) rfl hP (by omega) (by omega) dM_keys_85 (fun r48 kr38 => ?_)
            have hn26 : nsp (162 + z35) = (1, 4896, []) := rows_okb 162 8 4896 (by decide) _ (by omega)
            refine mp_v (cx := []) (wr := []) hP hD hS hA [] [] rfl rfl rfl (by decide) (va_runV (As := [.int (nI 2), .ref r44, .ref r46, .ref r48]) (rest := []) F (N_ME_keys_2 l g _ T s21 pl hO hU r43 r44 r46 r48 149 16384 (153 + z34) (162 + z35) kr33 kr34 rfl kr36 hn25 kr38 hn26 (by omega) (by omega) hE.1) (cwV 4 hts (wg_app (wg_c kw_1601 (wg_c kw_1602 (wg_c kw_1603 (wg_c kw_11 wg_n)))) kw_1604) rfl rfl rfl (by decide +kernel) ⟨by decide, by decide⟩) (pn_W "LatticeKeysModel$Secrets" (en_ok g) (ci := 11) (kn := 184) (fl := [(3, 172), (3, 178), (3, 185), (3, 202), (3, 207), (3, 212), (3, 217), (3, 218), (3, 219), (3, 220), (3, 221), (3, 222), (3, 223), (3, 224)]) hK hO kr33 rfl hP hD hS hA hEn [] rfl rfl rfl) rfl rfl hl.1 rfl (lv_room (Nat.le_of_ble_eq_true rfl)) dM_keys_86 ⟨by omega, by omega⟩) (fun  u33 H locs hu33 hP hD hS => ?_)
            obtain ⟨s24, pl⟩ := u33
            obtain ⟨⟨eq33, hFc33, -⟩, hO⟩ := hu33
            have hO : okn g T s24 pl := hO
            have hP : va_P g.1 vcl ([] ++ pl) _ := hP
            have hD : va_D _ ([] ++ pl) := hD
            have hFc33 : frm (M_ME_keys_2 (153 + z34) (162 + z35)) s21 s24 := hFc33
            clear hE
            replace hR := bnd_step hR eq33
            have hF := frm_tr hF hFc33 (fun k hk => by unfold M_ME_keys_2 at hk; unfold M_M_keys; omega)
            have hf41 : s24.1 148 1 = nI tp := fc_F hf21 hFc33 (by unfold M_ME_keys_2; omega)
            have hf42 : s24.1 148 2 = nI rs := fc_F hf22 hFc33 (by unfold M_ME_keys_2; omega)
            have hf43 : s24.1 148 3 = nI ks := fc_F hf23 hFc33 (by unfold M_ME_keys_2; omega)
            have hf44 : s24.1 148 0 = nI 0 := fc_F hf24 hFc33 (by unfold M_ME_keys_2; omega)
            have hg43 : SETS ks (s24.1 170) := by rw [hFc33 170 (by unfold M_ME_keys_2; omega)]; exact hg21
            have hg44 : HIDS ks (s24.1 171) := by rw [hFc33 171 (by unfold M_ME_keys_2; omega)]; exact hg22
            refine W.widen (k := 0) (n := 0) (by omega) (by omega) ?_
            refine lv_goto (tgt := 124) hx hb dM_keys_89 (by decide) ?_
            refine lv_aload_n hx hb dM_keys_124 rfl (lv_at hl 0 rfl) ?_
            refine lv_iload_n hx hb dM_keys_125 rfl (lv_at hl 1 rfl) ?_
            refine lv_iload_n hx hb dM_keys_126 rfl (lv_at hl 1 rfl) ?_
            refine mp_i (cx := []) (wr := []) hP hD hS hA [] [] rfl rfl rfl (by decide) (va_runS (As := [.int (nI 2)]) (rest := [.int (nI 2), .ref h0]) F (N_M_hiddenSize_2 l g _ T s24 pl hO hU ) (va_cwS 1 hts (wg_app (wg_c kw_1747 (wg_c kw_1748 (wg_c kw_9 wg_n))) kw_1749) rfl rfl rfl (by decide +kernel) ⟨by decide, by decide⟩) (pp_S (en_ok g) hP hD hS hA hEn [] rfl rfl) rfl rfl hl.1 rfl (lv_room (Nat.le_of_ble_eq_true rfl)) dM_keys_127 ⟨by omega, by omega⟩) (fun r49 u34 H locs hu34 hP hD hS => ?_)
            obtain ⟨q31, pl⟩ := u34
            obtain ⟨⟨eq34, rfl, hFc34, ⟨x58, hx_58, hb_58⟩, hxp34, -⟩, hO⟩ := hu34
            have hO : okn g T q31.2 pl := hO
            have hP : va_P g.1 vcl ([] ++ pl) _ := hP
            have hD : va_D _ ([] ++ pl) := hD
            have hFc34 : frm (M_M_hiddenSize_2) s24 q31.2 := hFc34
            have hb_58 : x58 < 3169 := hb_58
            replace hR := bnd_step hR eq34
            have hF := frm_tr hF hFc34 (fun k hk => by unfold M_M_hiddenSize_2 at hk; unfold M_M_keys; omega)
            have hf45 : q31.2.1 148 1 = nI tp := fc_F hf41 hFc34 (by unfold M_M_hiddenSize_2; omega)
            have hf46 : q31.2.1 148 2 = nI rs := fc_F hf42 hFc34 (by unfold M_M_hiddenSize_2; omega)
            have hf47 : q31.2.1 148 3 = nI ks := fc_F hf43 hFc34 (by unfold M_M_hiddenSize_2; omega)
            have hf48 : q31.2.1 148 0 = nI 0 := fc_F hf44 hFc34 (by unfold M_M_hiddenSize_2; omega)
            have hg45 : SETS ks (q31.2.1 170) := by rw [hFc34 170 (by unfold M_M_hiddenSize_2; omega)]; exact hg43
            have hg46 : HIDS ks (q31.2.1 171) := by rw [hFc34 171 (by unfold M_M_hiddenSize_2; omega)]; exact hg44
            obtain ⟨z36, ez36, hz50, hz51⟩ := cl_of (b := 2147483648) hx_58 (by omega) (by decide)
            replace hR := bnd_step hR ez36
            refine mi_as hz50 ?_
            have hsz23 : z36 = 3168 := (nI_eq (by omega) (by omega)).mp (hz50.symm.trans hxp34)
            subst hsz23
            refine W.widen (k := 0) (n := 0) (by omega) (by omega) ?_
            refine mp_i (cx := []) (wr := []) hP hD hS hA [] [] rfl rfl rfl (by decide) (va_runV (As := [.int (nI 2), .int (nI 3168)]) (rest := []) F (N_M_madeP l g _ T q31.2 pl hO hU h0 2 3168 tp rs ks k_h0 hf45 hf46 hf47 (by omega) (by omega) (by omega) hg45 hg46) (cwV 2 hts (wg_app (wg_c kw_1756 (wg_c kw_1758 (wg_c ks_64 (wg_c kw_9 wg_n)))) kw_1759) rfl rfl rfl (by decide +kernel) ⟨by decide, by decide⟩) (pn_W "LatticeKeysModel" (en_ok g) (ci := 8) (kn := 148) (fl := [(0, 0), (0, 0), (0, 0), (0, 0), (3, 149), (3, 150), (3, 151), (3, 152), (3, 161), (3, 170), (3, 171), (3, 172), (3, 184), (3, 225)]) hK hO k_h0 rfl hP hD hS hA hEn [] rfl rfl rfl) rfl rfl hl.1 rfl (lv_room (Nat.le_of_ble_eq_true rfl)) dM_keys_130 ⟨by omega, by omega⟩) (fun r50 u35 H locs hu35 hP hD hS => ?_)
            obtain ⟨q32, pl⟩ := u35
            obtain ⟨⟨eq35, rfl, hFc35, ⟨x59, hx_59, hb_59⟩, ⟨x60, hx_60, hb_60⟩, ⟨x61, hx_61, hb_61⟩, hxp35, -⟩, hO⟩ := hu35
            have hO : okn g T q32.2 pl := hO
            have hP : va_P g.1 vcl ([] ++ pl) _ := hP
            have hD : va_D _ ([] ++ pl) := hD
            have hFc35 : frm (M_M_madeP) q31.2 q32.2 := hFc35
            have hb_59 : x59 = 0 := hb_59
            have hb_60 : x60 = rs := hb_60
            have hb_61 : x61 = ks + 1 := hb_61
            replace hR := bnd_step hR eq35
            have hF := frm_tr hF hFc35 (fun k hk => by unfold M_M_madeP at hk; unfold M_M_keys; omega)
            refine W.widen (k := 0) (n := 0) (by omega) (by omega) ?_
            exact mp_iret hx hb hr hlk hP hD hS ((q32.1, q32.2), pl) ⟨⟨hR.symm, rfl, hF, ⟨x59, hx_59, by omega⟩, ⟨x60, hx_60, by omega⟩, ⟨x61, hx_61, by omega⟩, (by obtain ⟨x9, h9, e9, a9, b9⟩ := hxp35; subst e9; exact ⟨_, h9, by omega, a9, b9⟩), trivial⟩, hO⟩ [] rfl rfl rfl (by omega) (by omega) dM_keys_133
          · replace hR := hR.trans (if_pos h33)
            replace hE := iteP_pos h33 hE
            refine lv_aload_n hx hb dM_keys_48 rfl (lv_at hl 0 rfl) ?_
            refine lv_iconst (v := nI 2) hx hb dM_keys_49 (by decide) ?_
            refine mp_i (cx := []) (wr := []) hP hD hS hA [] [] rfl rfl rfl (by decide) (va_runV (As := [.int (nI 2)]) (rest := []) F (N_M_fail l g _ T s21 pl hO hU h0 (nI 2) tp rs ks k_h0 hf21 hf22 hf23) (cwV 1 hts (wg_app (wg_c kw_1577 (wg_c kw_1579 (wg_c ks_50 (wg_c kw_9 wg_n)))) kw_1580) rfl rfl rfl (by decide +kernel) ⟨by decide, by decide⟩) (pn_W "LatticeKeysModel" (en_ok g) (ci := 8) (kn := 148) (fl := [(0, 0), (0, 0), (0, 0), (0, 0), (3, 149), (3, 150), (3, 151), (3, 152), (3, 161), (3, 170), (3, 171), (3, 172), (3, 184), (3, 225)]) hK hO k_h0 rfl hP hD hS hA hEn [] rfl rfl rfl) rfl rfl hl.1 rfl (lv_room (Nat.le_of_ble_eq_true rfl)) dM_keys_50 ⟨by omega, by omega⟩) (fun r51 u36 H locs hu36 hP hD hS => ?_)
            obtain ⟨q33, pl⟩ := u36
            obtain ⟨⟨eq36, rfl, hFc36, ⟨x63, hx_63, hb_63⟩, ⟨x64, hx_64, hb_64⟩, ⟨x65, hx_65, hb_65⟩, -⟩, hO⟩ := hu36
            have hO : okn g T q33.2 pl := hO
            have hP : va_P g.1 vcl ([] ++ pl) _ := hP
            have hD : va_D _ ([] ++ pl) := hD
            have hFc36 : frm (M_M_fail) s21 q33.2 := hFc36
            have hb_63 : x63 = tp := hb_63
            have hb_64 : x64 = rs := hb_64
            have hb_65 : x65 = ks := hb_65
            replace hR := bnd_step hR eq36
            replace hE := bndP_step hE eq36
            have hF := frm_tr hF hFc36 (fun k hk => by unfold M_M_fail at hk; unfold M_M_keys; omega)
            have hg47 : SETS ks (q33.2.1 170) := by rw [hFc36 170 (by unfold M_M_fail; omega)]; exact hg21
            have hg48 : HIDS ks (q33.2.1 171) := by rw [hFc36 171 (by unfold M_M_fail; omega)]; exact hg22
            refine W.widen (k := 0) (n := 0) (by omega) (by omega) ?_
            exact mp_iret hx hb hr hlk hP hD hS ((q33.1, q33.2), pl) ⟨⟨hR.symm, rfl, hF, ⟨x63, hx_63, by omega⟩, ⟨x64, hx_64, by omega⟩, ⟨x65, hx_65, by omega⟩, ⟨ks, (hx_65).trans (congrArg nI (show x65 = ks by omega)), by omega, hg47, hg48⟩, trivial⟩, hO⟩ [] rfl rfl rfl (by omega) (by omega) dM_keys_53
        · replace hR := hR.trans (if_neg h32)
          replace hE := iteP_neg h32 hE
          refine lv_aload_n hx hb dM_keys_33 rfl (lv_at hl 0 rfl) ?_
          refine lv_iconst (v := nI 1) hx hb dM_keys_34 (by decide) ?_
          refine mp_i (cx := []) (wr := []) hP hD hS hA [] [] rfl rfl rfl (by decide) (va_runV (As := [.int (nI 1)]) (rest := []) F (N_M_fail l g _ T s21 pl hO hU h0 (nI 1) tp rs ks k_h0 hf21 hf22 hf23) (cwV 1 hts (wg_app (wg_c kw_1577 (wg_c kw_1579 (wg_c ks_50 (wg_c kw_9 wg_n)))) kw_1580) rfl rfl rfl (by decide +kernel) ⟨by decide, by decide⟩) (pn_W "LatticeKeysModel" (en_ok g) (ci := 8) (kn := 148) (fl := [(0, 0), (0, 0), (0, 0), (0, 0), (3, 149), (3, 150), (3, 151), (3, 152), (3, 161), (3, 170), (3, 171), (3, 172), (3, 184), (3, 225)]) hK hO k_h0 rfl hP hD hS hA hEn [] rfl rfl rfl) rfl rfl hl.1 rfl (lv_room (Nat.le_of_ble_eq_true rfl)) dM_keys_35 ⟨by omega, by omega⟩) (fun r52 u37 H locs hu37 hP hD hS => ?_)
          obtain ⟨q34, pl⟩ := u37
          obtain ⟨⟨eq37, rfl, hFc37, ⟨x67, hx_67, hb_67⟩, ⟨x68, hx_68, hb_68⟩, ⟨x69, hx_69, hb_69⟩, -⟩, hO⟩ := hu37
          have hO : okn g T q34.2 pl := hO
          have hP : va_P g.1 vcl ([] ++ pl) _ := hP
          have hD : va_D _ ([] ++ pl) := hD
          have hFc37 : frm (M_M_fail) s21 q34.2 := hFc37
          have hb_67 : x67 = tp := hb_67
          have hb_68 : x68 = rs := hb_68
          have hb_69 : x69 = ks := hb_69
          replace hR := bnd_step hR eq37
          replace hE := bndP_step hE eq37
          have hF := frm_tr hF hFc37 (fun k hk => by unfold M_M_fail at hk; unfold M_M_keys; omega)
          have hg49 : SETS ks (q34.2.1 170) := by rw [hFc37 170 (by unfold M_M_fail; omega)]; exact hg21
          have hg50 : HIDS ks (q34.2.1 171) := by rw [hFc37 171 (by unfold M_M_fail; omega)]; exact hg22
          refine W.widen (k := 0) (n := 0) (by omega) (by omega) ?_
          exact mp_iret hx hb hr hlk hP hD hS ((q34.1, q34.2), pl) ⟨⟨hR.symm, rfl, hF, ⟨x67, hx_67, by omega⟩, ⟨x68, hx_68, by omega⟩, ⟨x69, hx_69, by omega⟩, ⟨ks, (hx_69).trans (congrArg nI (show x69 = ks by omega)), by omega, hg49, hg50⟩, trivial⟩, hO⟩ [] rfl rfl rfl (by omega) (by omega) dM_keys_38
      replace hR := hR.trans (if_neg hs23)
      replace hE := iteP_neg hs23 hE
      by_cases hs24 : z21 = 3
      · replace hR := hR.trans (if_pos hs24)
        replace hE := iteP_pos hs24 hE
        subst hs24
        refine lv_aload_n hx hb dM_keys_14 rfl (lv_at hl 0 rfl) ?_
        refine nw_get (C := "LatticeKeysModel") (TT := T_M) (N := 14) hx hb hts (wg_ft i_M) hown hK hO k_h0 (kn := 148) (ci := 8) (fl := [(0, 0), (0, 0), (0, 0), (0, 0), (3, 149), (3, 150), (3, 151), (3, 152), (3, 161), (3, 170), (3, 171), (3, 172), (3, 184), (3, 225)]) rfl hP rfl 1 (by decide) (hts _ (wg_t kw_1527)) (fun _ h9 => h9) (cd := (0, 0)) rfl dM_keys_15 (fun v45 hv46 => ?_)
        obtain rfl := (show v45 = .int (s21.1 148 1) from hv46)
        obtain ⟨z37, ez37, hz52, hz53⟩ := cl_of (b := 2147483648) hf21 (by omega) (by decide)
        replace hR := bnd_step hR ez37
        replace hE := bndP_step hE ez37
        refine mi_as hz52 ?_
        refine lv_iload_n hx hb dM_keys_18 rfl (lv_at hl 1 rfl) ?_
        refine lv_iconst (v := nI 3) hx hb dM_keys_19 (by decide) ?_
        refine mi_ge (tgt := 28) hx hb dM_keys_20 (by decide) (by omega) (by omega) (fun h35 => ?_) (fun h35 => absurd h35 (by omega))
        refine lv_bipush (v := nI 32) hx hb dM_keys_28 (by decide) ?_
        refine mi_eq (tgt := 39) hx hb dM_keys_30 (by decide) (by omega) (by omega) (fun h36 => ?_) (fun h36 => ?_)
        · replace hR := hR.trans (if_pos h36)
          replace hE := iteP_pos h36 hE
          refine lv_aload_n hx hb dM_keys_39 rfl (lv_at hl 0 rfl) ?_
          refine nw_get (C := "LatticeKeysModel") (TT := T_M) (N := 14) hx hb hts (wg_ft i_M) hown hK hO k_h0 (kn := 148) (ci := 8) (fl := [(0, 0), (0, 0), (0, 0), (0, 0), (3, 149), (3, 150), (3, 151), (3, 152), (3, 161), (3, 170), (3, 171), (3, 172), (3, 184), (3, 225)]) rfl hP rfl 3 (by decide) (hts _ (wg_t kw_1529)) (fun _ h9 => h9) (cd := (0, 0)) rfl dM_keys_40 (fun v46 hv47 => ?_)
          obtain rfl := (show v46 = .int (s21.1 148 3) from hv47)
          obtain ⟨z38, ez38, hz54, hz55⟩ := cl_of (b := 2147483648) hf23 (by omega) (by decide)
          replace hR := bnd_step hR ez38
          replace hE := bndP_step hE ez38
          refine mi_as hz54 ?_
          refine lv_bipush (v := nI 8) hx hb dM_keys_43 (by decide) ?_
          refine mi_ne (tgt := 54) hx hb dM_keys_45 (by decide) (by omega) (by omega) (fun h37 => ?_) (fun h37 => ?_)
          · replace hR := hR.trans (if_neg h37)
            replace hE := iteP_neg h37 hE
            refine lv_iload_n hx hb dM_keys_54 rfl (lv_at hl 1 rfl) ?_
            refine lv_iconst (v := nI 3) hx hb dM_keys_55 (by decide) ?_
            refine mi_ge (tgt := 92) hx hb dM_keys_56 (by decide) (by omega) (by omega) (fun h38 => ?_) (fun h38 => absurd h38 (by omega))
            refine lv_aload_n hx hb dM_keys_92 rfl (lv_at hl 0 rfl) ?_
            refine nw_get (C := "LatticeKeysModel") (TT := T_M) (N := 14) hx hb hts (wg_ft i_M) hown hK hO k_h0 (kn := 148) (ci := 8) (fl := [(0, 0), (0, 0), (0, 0), (0, 0), (3, 149), (3, 150), (3, 151), (3, 152), (3, 161), (3, 170), (3, 171), (3, 172), (3, 184), (3, 225)]) rfl hP rfl 13 (by decide) (hts _ (wg_t kw_1539)) (fun _ h9 => h9) (cd := (3, 225)) rfl dM_keys_93 (fun v47 hv48 => ?_)
            obtain ⟨r53, rfl, kr39⟩ := (show ∃ r : Nat, v47 = .ref r ∧ T r = some 225 from hv48)
            refine lv_iload_n hx hb dM_keys_96 rfl (lv_at hl 1 rfl) ?_
            refine lv_iconst (v := nI 3) hx hb dM_keys_97 (by decide) ?_
            refine mi_isub hx hb dM_keys_98 (by omega) ?_
            refine mi_as (show nI (3 - 3) = nI 0 from rfl) ?_
            refine lv_aload_n hx hb dM_keys_99 rfl (lv_at hl 0 rfl) ?_
            refine nw_get (C := "LatticeKeysModel") (TT := T_M) (N := 14) hx hb hts (wg_ft i_M) hown hK hO k_h0 (kn := 148) (ci := 8) (fl := [(0, 0), (0, 0), (0, 0), (0, 0), (3, 149), (3, 150), (3, 151), (3, 152), (3, 161), (3, 170), (3, 171), (3, 172), (3, 184), (3, 225)]) rfl hP rfl 4 (by decide) (hts _ (wg_t kw_1530)) (fun _ h9 => h9) (cd := (3, 149)) rfl dM_keys_100 (fun v48 hv49 => ?_)
            obtain ⟨r54, rfl, kr40⟩ := (show ∃ r : Nat, v48 = .ref r ∧ T r = some 149 from hv49)
            refine lv_aload_n hx hb dM_keys_103 rfl (lv_at hl 0 rfl) ?_
            refine nw_get (C := "LatticeKeysModel") (TT := T_M) (N := 14) hx hb hts (wg_ft i_M) hown hK hO k_h0 (kn := 148) (ci := 8) (fl := [(0, 0), (0, 0), (0, 0), (0, 0), (3, 149), (3, 150), (3, 151), (3, 152), (3, 161), (3, 170), (3, 171), (3, 172), (3, 184), (3, 225)]) rfl hP rfl 7 (by decide) (hts _ (wg_t kw_1533)) (fun _ h9 => h9) (cd := (3, 152)) rfl dM_keys_104 (fun v49 hv50 => ?_)
            obtain ⟨r55, rfl, kr41⟩ := (show ∃ r : Nat, v49 = .ref r ∧ T r = some 152 from hv50)
            refine lv_aload_n hx hb dM_keys_107 rfl (lv_at hl 0 rfl) ?_
            refine nw_get (C := "LatticeKeysModel") (TT := T_M) (N := 14) hx hb hts (wg_ft i_M) hown hK hO k_h0 (kn := 148) (ci := 8) (fl := [(0, 0), (0, 0), (0, 0), (0, 0), (3, 149), (3, 150), (3, 151), (3, 152), (3, 161), (3, 170), (3, 171), (3, 172), (3, 184), (3, 225)]) rfl hP rfl 3 (by decide) (hts _ (wg_t kw_1529)) (fun _ h9 => h9) (cd := (0, 0)) rfl dM_keys_108 (fun v50 hv51 => ?_)
            obtain rfl := (show v50 = .int (s21.1 148 3) from hv51)
            obtain ⟨z39, ez39, hz56, hz57⟩ := cl_of (b := 2147483648) hf23 (by omega) (by decide)
            replace hR := bnd_step hR ez39
            replace hE := bndP_step hE ez39
            refine mi_as hz56 ?_
            refine nw_aald4 hx hb hK hO kr41 (k := 152) (b := 153) rfl hP (by omega) (by omega) dM_keys_111 (fun r56 kr42 => ?_)
            have hn27 : nsp (153 + z39) = (1, 2592, []) := rows_okb 153 8 2592 (by decide) _ (by omega)
            refine lv_aload_n hx hb dM_keys_112 rfl (lv_at hl 0 rfl) ?_
            refine nw_get (C := "LatticeKeysModel") (TT := T_M) (N := 14) hx hb hts (wg_ft i_M) hown hK hO k_h0 (kn := 148) (ci := 8) (fl := [(0, 0), (0, 0), (0, 0), (0, 0), (3, 149), (3, 150), (3, 151), (3, 152), (3, 161), (3, 170), (3, 171), (3, 172), (3, 184), (3, 225)]) rfl hP rfl 8 (by decide) (hts _ (wg_t kw_1534)) (fun _ h9 => h9) (cd := (3, 161)) rfl dM_keys_113 (fun v51 hv52 => ?_)
            obtain ⟨r57, rfl, kr43⟩ := (show ∃ r : Nat, v51 = .ref r ∧ T r = some 161 from hv52)
            refine lv_aload_n hx hb dM_keys_116 rfl (lv_at hl 0 rfl) ?_
            refine nw_get (C := "LatticeKeysModel") (TT := T_M) (N := 14) hx hb hts (wg_ft i_M) hown hK hO k_h0 (kn := 148) (ci := 8) (fl := [(0, 0), (0, 0), (0, 0), (0, 0), (3, 149), (3, 150), (3, 151), (3, 152), (3, 161), (3, 170), (3, 171), (3, 172), (3, 184), (3, 225)]) rfl hP rfl 3 (by decide) (hts _ (wg_t kw_1529)) (fun _ h9 => h9) (cd := (0, 0)) rfl dM_keys_117 (fun v52 hv53 => ?_)
            obtain rfl := (show v52 = .int (s21.1 148 3) from hv53)
            obtain ⟨z40, ez40, hz58, hz59⟩ := cl_of (b := 2147483648) hf23 (by omega) (by decide)
            replace hR := bnd_step hR ez40
            replace hE := bndP_step hE ez40
            refine mi_as hz58 ?_
            refine nw_aald4 hx hb hK hO kr43 (k := 161) (b := 162) rfl hP (by omega) (by omega) dM_keys_120 (fun r58 kr44 => ?_)
            have hn28 : nsp (162 + z40) = (1, 4896, []) := rows_okb 162 8 4896 (by decide) _ (by omega)
            refine mp_v (cx := []) (wr := []) hP hD hS hA [] [] rfl rfl rfl (by decide) (va_runV (As := [.int (nI 0), .ref r54, .ref r56, .ref r58]) (rest := []) F (N_MH_keys_0 l g _ T s21 pl hO hU r53 r54 r56 r58 149 16384 (153 + z39) (162 + z40) kr39 kr40 rfl kr42 hn27 kr44 hn28 (by omega) (by omega) hE.1) (cwV 4 hts (wg_app (wg_c kw_1698 (wg_c kw_1699 (wg_c kw_1700 (wg_c kw_13 wg_n)))) kw_1701) rfl rfl rfl (by decide +kernel) ⟨by decide, by decide⟩) (pn_W "LatticeKeysModel$Hands" (en_ok g) (ci := 12) (kn := 225) (fl := [(3, 172), (3, 181), (3, 226), (3, 291), (3, 299), (3, 308), (3, 317), (3, 326), (3, 334), (3, 342), (3, 350), (3, 359), (3, 368), (3, 369), (3, 370), (3, 371), (3, 372), (3, 373), (3, 374), (3, 375), (3, 376), (3, 377), (3, 378), (0, 0), (0, 0), (0, 0), (0, 0), (0, 0), (0, 0), (0, 0), (0, 0)]) hK hO kr39 rfl hP hD hS hA hEn [] rfl rfl rfl) rfl rfl hl.1 rfl (lv_room (Nat.le_of_ble_eq_true rfl)) dM_keys_121 ⟨by omega, by omega⟩) (fun  u38 H locs hu38 hP hD hS => ?_)
            obtain ⟨s25, pl⟩ := u38
            obtain ⟨⟨eq38, hFc38, -⟩, hO⟩ := hu38
            have hO : okn g T s25 pl := hO
            have hP : va_P g.1 vcl ([] ++ pl) _ := hP
            have hD : va_D _ ([] ++ pl) := hD
            have hFc38 : frm (M_MH_keys_0 (153 + z39) (162 + z40)) s21 s25 := hFc38
            clear hE
            replace hR := bnd_step hR eq38
            have hF := frm_tr hF hFc38 (fun k hk => by unfold M_MH_keys_0 at hk; unfold M_M_keys; omega)
            have hf49 : s25.1 148 1 = nI tp := fc_F hf21 hFc38 (by unfold M_MH_keys_0; omega)
            have hf50 : s25.1 148 2 = nI rs := fc_F hf22 hFc38 (by unfold M_MH_keys_0; omega)
            have hf51 : s25.1 148 3 = nI ks := fc_F hf23 hFc38 (by unfold M_MH_keys_0; omega)
            have hf52 : s25.1 148 0 = nI 0 := fc_F hf24 hFc38 (by unfold M_MH_keys_0; omega)
            have hg51 : SETS ks (s25.1 170) := by rw [hFc38 170 (by unfold M_MH_keys_0; omega)]; exact hg21
            have hg52 : HIDS ks (s25.1 171) := by rw [hFc38 171 (by unfold M_MH_keys_0; omega)]; exact hg22
            refine W.widen (k := 0) (n := 0) (by omega) (by omega) ?_
            refine lv_aload_n hx hb dM_keys_124 rfl (lv_at hl 0 rfl) ?_
            refine lv_iload_n hx hb dM_keys_125 rfl (lv_at hl 1 rfl) ?_
            refine lv_iload_n hx hb dM_keys_126 rfl (lv_at hl 1 rfl) ?_
            refine mp_i (cx := []) (wr := []) hP hD hS hA [] [] rfl rfl rfl (by decide) (va_runS (As := [.int (nI 3)]) (rest := [.int (nI 3), .ref h0]) F (N_M_hiddenSize_3 l g _ T s25 pl hO hU ) (va_cwS 1 hts (wg_app (wg_c kw_1747 (wg_c kw_1748 (wg_c kw_9 wg_n))) kw_1749) rfl rfl rfl (by decide +kernel) ⟨by decide, by decide⟩) (pp_S (en_ok g) hP hD hS hA hEn [] rfl rfl) rfl rfl hl.1 rfl (lv_room (Nat.le_of_ble_eq_true rfl)) dM_keys_127 ⟨by omega, by omega⟩) (fun r59 u39 H locs hu39 hP hD hS => ?_)
            obtain ⟨q35, pl⟩ := u39
            obtain ⟨⟨eq39, rfl, hFc39, ⟨x72, hx_72, hb_72⟩, hxp39, -⟩, hO⟩ := hu39
            have hO : okn g T q35.2 pl := hO
            have hP : va_P g.1 vcl ([] ++ pl) _ := hP
            have hD : va_D _ ([] ++ pl) := hD
            have hFc39 : frm (M_M_hiddenSize_3) s25 q35.2 := hFc39
            have hb_72 : x72 < 2561 := hb_72
            replace hR := bnd_step hR eq39
            have hF := frm_tr hF hFc39 (fun k hk => by unfold M_M_hiddenSize_3 at hk; unfold M_M_keys; omega)
            have hf53 : q35.2.1 148 1 = nI tp := fc_F hf49 hFc39 (by unfold M_M_hiddenSize_3; omega)
            have hf54 : q35.2.1 148 2 = nI rs := fc_F hf50 hFc39 (by unfold M_M_hiddenSize_3; omega)
            have hf55 : q35.2.1 148 3 = nI ks := fc_F hf51 hFc39 (by unfold M_M_hiddenSize_3; omega)
            have hf56 : q35.2.1 148 0 = nI 0 := fc_F hf52 hFc39 (by unfold M_M_hiddenSize_3; omega)
            have hg53 : SETS ks (q35.2.1 170) := by rw [hFc39 170 (by unfold M_M_hiddenSize_3; omega)]; exact hg51
            have hg54 : HIDS ks (q35.2.1 171) := by rw [hFc39 171 (by unfold M_M_hiddenSize_3; omega)]; exact hg52
            obtain ⟨z41, ez41, hz60, hz61⟩ := cl_of (b := 2147483648) hx_72 (by omega) (by decide)
            replace hR := bnd_step hR ez41
            refine mi_as hz60 ?_
            have hsz24 : z41 = 2560 := (nI_eq (by omega) (by omega)).mp (hz60.symm.trans hxp39)
            subst hsz24
            refine W.widen (k := 0) (n := 0) (by omega) (by omega) ?_
            refine mp_i (cx := []) (wr := []) hP hD hS hA [] [] rfl rfl rfl (by decide) (va_runV (As := [.int (nI 3), .int (nI 2560)]) (rest := []) F (N_M_madeP l g _ T q35.2 pl hO hU h0 3 2560 tp rs ks k_h0 hf53 hf54 hf55 (by omega) (by omega) (by omega) hg53 hg54) (cwV 2 hts (wg_app (wg_c kw_1756 (wg_c kw_1758 (wg_c ks_64 (wg_c kw_9 wg_n)))) kw_1759) rfl rfl rfl (by decide +kernel) ⟨by decide, by decide⟩) (pn_W "LatticeKeysModel" (en_ok g) (ci := 8) (kn := 148) (fl := [(0, 0), (0, 0), (0, 0), (0, 0), (3, 149), (3, 150), (3, 151), (3, 152), (3, 161), (3, 170), (3, 171), (3, 172), (3, 184), (3, 225)]) hK hO k_h0 rfl hP hD hS hA hEn [] rfl rfl rfl) rfl rfl hl.1 rfl (lv_room (Nat.le_of_ble_eq_true rfl)) dM_keys_130 ⟨by omega, by omega⟩) (fun r60 u40 H locs hu40 hP hD hS => ?_)
            obtain ⟨q36, pl⟩ := u40
            obtain ⟨⟨eq40, rfl, hFc40, ⟨x73, hx_73, hb_73⟩, ⟨x74, hx_74, hb_74⟩, ⟨x75, hx_75, hb_75⟩, hxp40, -⟩, hO⟩ := hu40
            have hO : okn g T q36.2 pl := hO
            have hP : va_P g.1 vcl ([] ++ pl) _ := hP
            have hD : va_D _ ([] ++ pl) := hD
            have hFc40 : frm (M_M_madeP) q35.2 q36.2 := hFc40
            have hb_73 : x73 = 0 := hb_73
            have hb_74 : x74 = rs := hb_74
            have hb_75 : x75 = ks + 1 := hb_75
            replace hR := bnd_step hR eq40
            have hF := frm_tr hF hFc40 (fun k hk => by unfold M_M_madeP at hk; unfold M_M_keys; omega)
            refine W.widen (k := 0) (n := 0) (by omega) (by omega) ?_
            exact mp_iret hx hb hr hlk hP hD hS ((q36.1, q36.2), pl) ⟨⟨hR.symm, rfl, hF, ⟨x73, hx_73, by omega⟩, ⟨x74, hx_74, by omega⟩, ⟨x75, hx_75, by omega⟩, (by obtain ⟨x9, h9, e9, a9, b9⟩ := hxp40; subst e9; exact ⟨_, h9, by omega, a9, b9⟩), trivial⟩, hO⟩ [] rfl rfl rfl (by omega) (by omega) dM_keys_133
          · replace hR := hR.trans (if_pos h37)
            replace hE := iteP_pos h37 hE
            refine lv_aload_n hx hb dM_keys_48 rfl (lv_at hl 0 rfl) ?_
            refine lv_iconst (v := nI 2) hx hb dM_keys_49 (by decide) ?_
            refine mp_i (cx := []) (wr := []) hP hD hS hA [] [] rfl rfl rfl (by decide) (va_runV (As := [.int (nI 2)]) (rest := []) F (N_M_fail l g _ T s21 pl hO hU h0 (nI 2) tp rs ks k_h0 hf21 hf22 hf23) (cwV 1 hts (wg_app (wg_c kw_1577 (wg_c kw_1579 (wg_c ks_50 (wg_c kw_9 wg_n)))) kw_1580) rfl rfl rfl (by decide +kernel) ⟨by decide, by decide⟩) (pn_W "LatticeKeysModel" (en_ok g) (ci := 8) (kn := 148) (fl := [(0, 0), (0, 0), (0, 0), (0, 0), (3, 149), (3, 150), (3, 151), (3, 152), (3, 161), (3, 170), (3, 171), (3, 172), (3, 184), (3, 225)]) hK hO k_h0 rfl hP hD hS hA hEn [] rfl rfl rfl) rfl rfl hl.1 rfl (lv_room (Nat.le_of_ble_eq_true rfl)) dM_keys_50 ⟨by omega, by omega⟩) (fun r61 u41 H locs hu41 hP hD hS => ?_)
            obtain ⟨q37, pl⟩ := u41
            obtain ⟨⟨eq41, rfl, hFc41, ⟨x77, hx_77, hb_77⟩, ⟨x78, hx_78, hb_78⟩, ⟨x79, hx_79, hb_79⟩, -⟩, hO⟩ := hu41
            have hO : okn g T q37.2 pl := hO
            have hP : va_P g.1 vcl ([] ++ pl) _ := hP
            have hD : va_D _ ([] ++ pl) := hD
            have hFc41 : frm (M_M_fail) s21 q37.2 := hFc41
            have hb_77 : x77 = tp := hb_77
            have hb_78 : x78 = rs := hb_78
            have hb_79 : x79 = ks := hb_79
            replace hR := bnd_step hR eq41
            replace hE := bndP_step hE eq41
            have hF := frm_tr hF hFc41 (fun k hk => by unfold M_M_fail at hk; unfold M_M_keys; omega)
            have hg55 : SETS ks (q37.2.1 170) := by rw [hFc41 170 (by unfold M_M_fail; omega)]; exact hg21
            have hg56 : HIDS ks (q37.2.1 171) := by rw [hFc41 171 (by unfold M_M_fail; omega)]; exact hg22
            refine W.widen (k := 0) (n := 0) (by omega) (by omega) ?_
            exact mp_iret hx hb hr hlk hP hD hS ((q37.1, q37.2), pl) ⟨⟨hR.symm, rfl, hF, ⟨x77, hx_77, by omega⟩, ⟨x78, hx_78, by omega⟩, ⟨x79, hx_79, by omega⟩, ⟨ks, (hx_79).trans (congrArg nI (show x79 = ks by omega)), by omega, hg55, hg56⟩, trivial⟩, hO⟩ [] rfl rfl rfl (by omega) (by omega) dM_keys_53
        · replace hR := hR.trans (if_neg h36)
          replace hE := iteP_neg h36 hE
          refine lv_aload_n hx hb dM_keys_33 rfl (lv_at hl 0 rfl) ?_
          refine lv_iconst (v := nI 1) hx hb dM_keys_34 (by decide) ?_
          refine mp_i (cx := []) (wr := []) hP hD hS hA [] [] rfl rfl rfl (by decide) (va_runV (As := [.int (nI 1)]) (rest := []) F (N_M_fail l g _ T s21 pl hO hU h0 (nI 1) tp rs ks k_h0 hf21 hf22 hf23) (cwV 1 hts (wg_app (wg_c kw_1577 (wg_c kw_1579 (wg_c ks_50 (wg_c kw_9 wg_n)))) kw_1580) rfl rfl rfl (by decide +kernel) ⟨by decide, by decide⟩) (pn_W "LatticeKeysModel" (en_ok g) (ci := 8) (kn := 148) (fl := [(0, 0), (0, 0), (0, 0), (0, 0), (3, 149), (3, 150), (3, 151), (3, 152), (3, 161), (3, 170), (3, 171), (3, 172), (3, 184), (3, 225)]) hK hO k_h0 rfl hP hD hS hA hEn [] rfl rfl rfl) rfl rfl hl.1 rfl (lv_room (Nat.le_of_ble_eq_true rfl)) dM_keys_35 ⟨by omega, by omega⟩) (fun r62 u42 H locs hu42 hP hD hS => ?_)
          obtain ⟨q38, pl⟩ := u42
          obtain ⟨⟨eq42, rfl, hFc42, ⟨x81, hx_81, hb_81⟩, ⟨x82, hx_82, hb_82⟩, ⟨x83, hx_83, hb_83⟩, -⟩, hO⟩ := hu42
          have hO : okn g T q38.2 pl := hO
          have hP : va_P g.1 vcl ([] ++ pl) _ := hP
          have hD : va_D _ ([] ++ pl) := hD
          have hFc42 : frm (M_M_fail) s21 q38.2 := hFc42
          have hb_81 : x81 = tp := hb_81
          have hb_82 : x82 = rs := hb_82
          have hb_83 : x83 = ks := hb_83
          replace hR := bnd_step hR eq42
          replace hE := bndP_step hE eq42
          have hF := frm_tr hF hFc42 (fun k hk => by unfold M_M_fail at hk; unfold M_M_keys; omega)
          have hg57 : SETS ks (q38.2.1 170) := by rw [hFc42 170 (by unfold M_M_fail; omega)]; exact hg21
          have hg58 : HIDS ks (q38.2.1 171) := by rw [hFc42 171 (by unfold M_M_fail; omega)]; exact hg22
          refine W.widen (k := 0) (n := 0) (by omega) (by omega) ?_
          exact mp_iret hx hb hr hlk hP hD hS ((q38.1, q38.2), pl) ⟨⟨hR.symm, rfl, hF, ⟨x81, hx_81, by omega⟩, ⟨x82, hx_82, by omega⟩, ⟨x83, hx_83, by omega⟩, ⟨ks, (hx_83).trans (congrArg nI (show x83 = ks by omega)), by omega, hg57, hg58⟩, trivial⟩, hO⟩ [] rfl rfl rfl (by omega) (by omega) dM_keys_38
      replace hR := hR.trans (if_neg hs24)
      replace hE := iteP_neg hs24 hE
      by_cases hs25 : z21 = 4
      · replace hR := hR.trans (if_pos hs25)
        replace hE := iteP_pos hs25 hE
        subst hs25
        refine lv_aload_n hx hb dM_keys_14 rfl (lv_at hl 0 rfl) ?_
        refine nw_get (C := "LatticeKeysModel") (TT := T_M) (N := 14) hx hb hts (wg_ft i_M) hown hK hO k_h0 (kn := 148) (ci := 8) (fl := [(0, 0), (0, 0), (0, 0), (0, 0), (3, 149), (3, 150), (3, 151), (3, 152), (3, 161), (3, 170), (3, 171), (3, 172), (3, 184), (3, 225)]) rfl hP rfl 1 (by decide) (hts _ (wg_t kw_1527)) (fun _ h9 => h9) (cd := (0, 0)) rfl dM_keys_15 (fun v53 hv54 => ?_)
        obtain rfl := (show v53 = .int (s21.1 148 1) from hv54)
        obtain ⟨z42, ez42, hz62, hz63⟩ := cl_of (b := 2147483648) hf21 (by omega) (by decide)
        replace hR := bnd_step hR ez42
        replace hE := bndP_step hE ez42
        refine mi_as hz62 ?_
        refine lv_iload_n hx hb dM_keys_18 rfl (lv_at hl 1 rfl) ?_
        refine lv_iconst (v := nI 3) hx hb dM_keys_19 (by decide) ?_
        refine mi_ge (tgt := 28) hx hb dM_keys_20 (by decide) (by omega) (by omega) (fun h39 => ?_) (fun h39 => absurd h39 (by omega))
        refine lv_bipush (v := nI 32) hx hb dM_keys_28 (by decide) ?_
        refine mi_eq (tgt := 39) hx hb dM_keys_30 (by decide) (by omega) (by omega) (fun h40 => ?_) (fun h40 => ?_)
        · replace hR := hR.trans (if_pos h40)
          replace hE := iteP_pos h40 hE
          refine lv_aload_n hx hb dM_keys_39 rfl (lv_at hl 0 rfl) ?_
          refine nw_get (C := "LatticeKeysModel") (TT := T_M) (N := 14) hx hb hts (wg_ft i_M) hown hK hO k_h0 (kn := 148) (ci := 8) (fl := [(0, 0), (0, 0), (0, 0), (0, 0), (3, 149), (3, 150), (3, 151), (3, 152), (3, 161), (3, 170), (3, 171), (3, 172), (3, 184), (3, 225)]) rfl hP rfl 3 (by decide) (hts _ (wg_t kw_1529)) (fun _ h9 => h9) (cd := (0, 0)) rfl dM_keys_40 (fun v54 hv55 => ?_)
          obtain rfl := (show v54 = .int (s21.1 148 3) from hv55)
          obtain ⟨z43, ez43, hz64, hz65⟩ := cl_of (b := 2147483648) hf23 (by omega) (by decide)
          replace hR := bnd_step hR ez43
          replace hE := bndP_step hE ez43
          refine mi_as hz64 ?_
          refine lv_bipush (v := nI 8) hx hb dM_keys_43 (by decide) ?_
          refine mi_ne (tgt := 54) hx hb dM_keys_45 (by decide) (by omega) (by omega) (fun h41 => ?_) (fun h41 => ?_)
          · replace hR := hR.trans (if_neg h41)
            replace hE := iteP_neg h41 hE
            refine lv_iload_n hx hb dM_keys_54 rfl (lv_at hl 1 rfl) ?_
            refine lv_iconst (v := nI 3) hx hb dM_keys_55 (by decide) ?_
            refine mi_ge (tgt := 92) hx hb dM_keys_56 (by decide) (by omega) (by omega) (fun h42 => ?_) (fun h42 => absurd h42 (by omega))
            refine lv_aload_n hx hb dM_keys_92 rfl (lv_at hl 0 rfl) ?_
            refine nw_get (C := "LatticeKeysModel") (TT := T_M) (N := 14) hx hb hts (wg_ft i_M) hown hK hO k_h0 (kn := 148) (ci := 8) (fl := [(0, 0), (0, 0), (0, 0), (0, 0), (3, 149), (3, 150), (3, 151), (3, 152), (3, 161), (3, 170), (3, 171), (3, 172), (3, 184), (3, 225)]) rfl hP rfl 13 (by decide) (hts _ (wg_t kw_1539)) (fun _ h9 => h9) (cd := (3, 225)) rfl dM_keys_93 (fun v55 hv56 => ?_)
            obtain ⟨r63, rfl, kr45⟩ := (show ∃ r : Nat, v55 = .ref r ∧ T r = some 225 from hv56)
            refine lv_iload_n hx hb dM_keys_96 rfl (lv_at hl 1 rfl) ?_
            refine lv_iconst (v := nI 3) hx hb dM_keys_97 (by decide) ?_
            refine mi_isub hx hb dM_keys_98 (by omega) ?_
            refine mi_as (show nI (4 - 3) = nI 1 from rfl) ?_
            refine lv_aload_n hx hb dM_keys_99 rfl (lv_at hl 0 rfl) ?_
            refine nw_get (C := "LatticeKeysModel") (TT := T_M) (N := 14) hx hb hts (wg_ft i_M) hown hK hO k_h0 (kn := 148) (ci := 8) (fl := [(0, 0), (0, 0), (0, 0), (0, 0), (3, 149), (3, 150), (3, 151), (3, 152), (3, 161), (3, 170), (3, 171), (3, 172), (3, 184), (3, 225)]) rfl hP rfl 4 (by decide) (hts _ (wg_t kw_1530)) (fun _ h9 => h9) (cd := (3, 149)) rfl dM_keys_100 (fun v56 hv57 => ?_)
            obtain ⟨r64, rfl, kr46⟩ := (show ∃ r : Nat, v56 = .ref r ∧ T r = some 149 from hv57)
            refine lv_aload_n hx hb dM_keys_103 rfl (lv_at hl 0 rfl) ?_
            refine nw_get (C := "LatticeKeysModel") (TT := T_M) (N := 14) hx hb hts (wg_ft i_M) hown hK hO k_h0 (kn := 148) (ci := 8) (fl := [(0, 0), (0, 0), (0, 0), (0, 0), (3, 149), (3, 150), (3, 151), (3, 152), (3, 161), (3, 170), (3, 171), (3, 172), (3, 184), (3, 225)]) rfl hP rfl 7 (by decide) (hts _ (wg_t kw_1533)) (fun _ h9 => h9) (cd := (3, 152)) rfl dM_keys_104 (fun v57 hv58 => ?_)
            obtain ⟨r65, rfl, kr47⟩ := (show ∃ r : Nat, v57 = .ref r ∧ T r = some 152 from hv58)
            refine lv_aload_n hx hb dM_keys_107 rfl (lv_at hl 0 rfl) ?_
            refine nw_get (C := "LatticeKeysModel") (TT := T_M) (N := 14) hx hb hts (wg_ft i_M) hown hK hO k_h0 (kn := 148) (ci := 8) (fl := [(0, 0), (0, 0), (0, 0), (0, 0), (3, 149), (3, 150), (3, 151), (3, 152), (3, 161), (3, 170), (3, 171), (3, 172), (3, 184), (3, 225)]) rfl hP rfl 3 (by decide) (hts _ (wg_t kw_1529)) (fun _ h9 => h9) (cd := (0, 0)) rfl dM_keys_108 (fun v58 hv59 => ?_)
            obtain rfl := (show v58 = .int (s21.1 148 3) from hv59)
            obtain ⟨z44, ez44, hz66, hz67⟩ := cl_of (b := 2147483648) hf23 (by omega) (by decide)
            replace hR := bnd_step hR ez44
            replace hE := bndP_step hE ez44
            refine mi_as hz66 ?_
            refine nw_aald4 hx hb hK hO kr47 (k := 152) (b := 153) rfl hP (by omega) (by omega) dM_keys_111 (fun r66 kr48 => ?_)
            have hn29 : nsp (153 + z44) = (1, 2592, []) := rows_okb 153 8 2592 (by decide) _ (by omega)
            refine lv_aload_n hx hb dM_keys_112 rfl (lv_at hl 0 rfl) ?_
            refine nw_get (C := "LatticeKeysModel") (TT := T_M) (N := 14) hx hb hts (wg_ft i_M) hown hK hO k_h0 (kn := 148) (ci := 8) (fl := [(0, 0), (0, 0), (0, 0), (0, 0), (3, 149), (3, 150), (3, 151), (3, 152), (3, 161), (3, 170), (3, 171), (3, 172), (3, 184), (3, 225)]) rfl hP rfl 8 (by decide) (hts _ (wg_t kw_1534)) (fun _ h9 => h9) (cd := (3, 161)) rfl dM_keys_113 (fun v59 hv60 => ?_)
            obtain ⟨r67, rfl, kr49⟩ := (show ∃ r : Nat, v59 = .ref r ∧ T r = some 161 from hv60)
            refine lv_aload_n hx hb dM_keys_116 rfl (lv_at hl 0 rfl) ?_
            refine nw_get (C := "LatticeKeysModel") (TT := T_M) (N := 14) hx hb hts (wg_ft i_M) hown hK hO k_h0 (kn := 148) (ci := 8) (fl := [(0, 0), (0, 0), (0, 0), (0, 0), (3, 149), (3, 150), (3, 151), (3, 152), (3, 161), (3, 170), (3, 171), (3, 172), (3, 184), (3, 225)]) rfl hP rfl 3 (by decide) (hts _ (wg_t kw_1529)) (fun _ h9 => h9) (cd := (0, 0)) rfl dM_keys_117 (fun v60 hv61 => ?_)
            obtain rfl := (show v60 = .int (s21.1 148 3) from hv61)
            obtain ⟨z45, ez45, hz68, hz69⟩ := cl_of (b := 2147483648) hf23 (by omega) (by decide)
            replace hR := bnd_step hR ez45
            replace hE := bndP_step hE ez45
            refine mi_as hz68 ?_
            refine nw_aald4 hx hb hK hO kr49 (k := 161) (b := 162) rfl hP (by omega) (by omega) dM_keys_120 (fun r68 kr50 => ?_)
            have hn30 : nsp (162 + z45) = (1, 4896, []) := rows_okb 162 8 4896 (by decide) _ (by omega)
            refine mp_v (cx := []) (wr := []) hP hD hS hA [] [] rfl rfl rfl (by decide) (va_runV (As := [.int (nI 1), .ref r64, .ref r66, .ref r68]) (rest := []) F (N_MH_keys_1 l g _ T s21 pl hO hU r63 r64 r66 r68 149 16384 (153 + z44) (162 + z45) kr45 kr46 rfl kr48 hn29 kr50 hn30 (by omega) (by omega) hE.1) (cwV 4 hts (wg_app (wg_c kw_1698 (wg_c kw_1699 (wg_c kw_1700 (wg_c kw_13 wg_n)))) kw_1701) rfl rfl rfl (by decide +kernel) ⟨by decide, by decide⟩) (pn_W "LatticeKeysModel$Hands" (en_ok g) (ci := 12) (kn := 225) (fl := [(3, 172), (3, 181), (3, 226), (3, 291), (3, 299), (3, 308), (3, 317), (3, 326), (3, 334), (3, 342), (3, 350), (3, 359), (3, 368), (3, 369), (3, 370), (3, 371), (3, 372), (3, 373), (3, 374), (3, 375), (3, 376), (3, 377), (3, 378), (0, 0), (0, 0), (0, 0), (0, 0), (0, 0), (0, 0), (0, 0), (0, 0)]) hK hO kr45 rfl hP hD hS hA hEn [] rfl rfl rfl) rfl rfl hl.1 rfl (lv_room (Nat.le_of_ble_eq_true rfl)) dM_keys_121 ⟨by omega, by omega⟩) (fun  u43 H locs hu43 hP hD hS => ?_)
            obtain ⟨s26, pl⟩ := u43
            obtain ⟨⟨eq43, hFc43, -⟩, hO⟩ := hu43
            have hO : okn g T s26 pl := hO
            have hP : va_P g.1 vcl ([] ++ pl) _ := hP
            have hD : va_D _ ([] ++ pl) := hD
            have hFc43 : frm (M_MH_keys_1 (153 + z44) (162 + z45)) s21 s26 := hFc43
            clear hE
            replace hR := bnd_step hR eq43
            have hF := frm_tr hF hFc43 (fun k hk => by unfold M_MH_keys_1 at hk; unfold M_M_keys; omega)
            have hf57 : s26.1 148 1 = nI tp := fc_F hf21 hFc43 (by unfold M_MH_keys_1; omega)
            have hf58 : s26.1 148 2 = nI rs := fc_F hf22 hFc43 (by unfold M_MH_keys_1; omega)
            have hf59 : s26.1 148 3 = nI ks := fc_F hf23 hFc43 (by unfold M_MH_keys_1; omega)
            have hf60 : s26.1 148 0 = nI 0 := fc_F hf24 hFc43 (by unfold M_MH_keys_1; omega)
            have hg59 : SETS ks (s26.1 170) := by rw [hFc43 170 (by unfold M_MH_keys_1; omega)]; exact hg21
            have hg60 : HIDS ks (s26.1 171) := by rw [hFc43 171 (by unfold M_MH_keys_1; omega)]; exact hg22
            refine W.widen (k := 0) (n := 0) (by omega) (by omega) ?_
            refine lv_aload_n hx hb dM_keys_124 rfl (lv_at hl 0 rfl) ?_
            refine lv_iload_n hx hb dM_keys_125 rfl (lv_at hl 1 rfl) ?_
            refine lv_iload_n hx hb dM_keys_126 rfl (lv_at hl 1 rfl) ?_
            refine mp_i (cx := []) (wr := []) hP hD hS hA [] [] rfl rfl rfl (by decide) (va_runS (As := [.int (nI 4)]) (rest := [.int (nI 4), .ref h0]) F (N_M_hiddenSize_4 l g _ T s26 pl hO hU ) (va_cwS 1 hts (wg_app (wg_c kw_1747 (wg_c kw_1748 (wg_c kw_9 wg_n))) kw_1749) rfl rfl rfl (by decide +kernel) ⟨by decide, by decide⟩) (pp_S (en_ok g) hP hD hS hA hEn [] rfl rfl) rfl rfl hl.1 rfl (lv_room (Nat.le_of_ble_eq_true rfl)) dM_keys_127 ⟨by omega, by omega⟩) (fun r69 u44 H locs hu44 hP hD hS => ?_)
            obtain ⟨q39, pl⟩ := u44
            obtain ⟨⟨eq44, rfl, hFc44, ⟨x86, hx_86, hb_86⟩, hxp44, -⟩, hO⟩ := hu44
            have hO : okn g T q39.2 pl := hO
            have hP : va_P g.1 vcl ([] ++ pl) _ := hP
            have hD : va_D _ ([] ++ pl) := hD
            have hFc44 : frm (M_M_hiddenSize_4) s26 q39.2 := hFc44
            have hb_86 : x86 < 4033 := hb_86
            replace hR := bnd_step hR eq44
            have hF := frm_tr hF hFc44 (fun k hk => by unfold M_M_hiddenSize_4 at hk; unfold M_M_keys; omega)
            have hf61 : q39.2.1 148 1 = nI tp := fc_F hf57 hFc44 (by unfold M_M_hiddenSize_4; omega)
            have hf62 : q39.2.1 148 2 = nI rs := fc_F hf58 hFc44 (by unfold M_M_hiddenSize_4; omega)
            have hf63 : q39.2.1 148 3 = nI ks := fc_F hf59 hFc44 (by unfold M_M_hiddenSize_4; omega)
            have hf64 : q39.2.1 148 0 = nI 0 := fc_F hf60 hFc44 (by unfold M_M_hiddenSize_4; omega)
            have hg61 : SETS ks (q39.2.1 170) := by rw [hFc44 170 (by unfold M_M_hiddenSize_4; omega)]; exact hg59
            have hg62 : HIDS ks (q39.2.1 171) := by rw [hFc44 171 (by unfold M_M_hiddenSize_4; omega)]; exact hg60
            obtain ⟨z46, ez46, hz70, hz71⟩ := cl_of (b := 2147483648) hx_86 (by omega) (by decide)
            replace hR := bnd_step hR ez46
            refine mi_as hz70 ?_
            have hsz25 : z46 = 4032 := (nI_eq (by omega) (by omega)).mp (hz70.symm.trans hxp44)
            subst hsz25
            refine W.widen (k := 0) (n := 0) (by omega) (by omega) ?_
            refine mp_i (cx := []) (wr := []) hP hD hS hA [] [] rfl rfl rfl (by decide) (va_runV (As := [.int (nI 4), .int (nI 4032)]) (rest := []) F (N_M_madeP l g _ T q39.2 pl hO hU h0 4 4032 tp rs ks k_h0 hf61 hf62 hf63 (by omega) (by omega) (by omega) hg61 hg62) (cwV 2 hts (wg_app (wg_c kw_1756 (wg_c kw_1758 (wg_c ks_64 (wg_c kw_9 wg_n)))) kw_1759) rfl rfl rfl (by decide +kernel) ⟨by decide, by decide⟩) (pn_W "LatticeKeysModel" (en_ok g) (ci := 8) (kn := 148) (fl := [(0, 0), (0, 0), (0, 0), (0, 0), (3, 149), (3, 150), (3, 151), (3, 152), (3, 161), (3, 170), (3, 171), (3, 172), (3, 184), (3, 225)]) hK hO k_h0 rfl hP hD hS hA hEn [] rfl rfl rfl) rfl rfl hl.1 rfl (lv_room (Nat.le_of_ble_eq_true rfl)) dM_keys_130 ⟨by omega, by omega⟩) (fun r70 u45 H locs hu45 hP hD hS => ?_)
            obtain ⟨q40, pl⟩ := u45
            obtain ⟨⟨eq45, rfl, hFc45, ⟨x87, hx_87, hb_87⟩, ⟨x88, hx_88, hb_88⟩, ⟨x89, hx_89, hb_89⟩, hxp45, -⟩, hO⟩ := hu45
            have hO : okn g T q40.2 pl := hO
            have hP : va_P g.1 vcl ([] ++ pl) _ := hP
            have hD : va_D _ ([] ++ pl) := hD
            have hFc45 : frm (M_M_madeP) q39.2 q40.2 := hFc45
            have hb_87 : x87 = 0 := hb_87
            have hb_88 : x88 = rs := hb_88
            have hb_89 : x89 = ks + 1 := hb_89
            replace hR := bnd_step hR eq45
            have hF := frm_tr hF hFc45 (fun k hk => by unfold M_M_madeP at hk; unfold M_M_keys; omega)
            refine W.widen (k := 0) (n := 0) (by omega) (by omega) ?_
            exact mp_iret hx hb hr hlk hP hD hS ((q40.1, q40.2), pl) ⟨⟨hR.symm, rfl, hF, ⟨x87, hx_87, by omega⟩, ⟨x88, hx_88, by omega⟩, ⟨x89, hx_89, by omega⟩, (by obtain ⟨x9, h9, e9, a9, b9⟩ := hxp45; subst e9; exact ⟨_, h9, by omega, a9, b9⟩), trivial⟩, hO⟩ [] rfl rfl rfl (by omega) (by omega) dM_keys_133
          · replace hR := hR.trans (if_pos h41)
            replace hE := iteP_pos h41 hE
            refine lv_aload_n hx hb dM_keys_48 rfl (lv_at hl 0 rfl) ?_
            refine lv_iconst (v := nI 2) hx hb dM_keys_49 (by decide) ?_
            refine mp_i (cx := []) (wr := []) hP hD hS hA [] [] rfl rfl rfl (by decide) (va_runV (As := [.int (nI 2)]) (rest := []) F (N_M_fail l g _ T s21 pl hO hU h0 (nI 2) tp rs ks k_h0 hf21 hf22 hf23) (cwV 1 hts (wg_app (wg_c kw_1577 (wg_c kw_1579 (wg_c ks_50 (wg_c kw_9 wg_n)))) kw_1580) rfl rfl rfl (by decide +kernel) ⟨by decide, by decide⟩) (pn_W "LatticeKeysModel" (en_ok g) (ci := 8) (kn := 148) (fl := [(0, 0), (0, 0), (0, 0), (0, 0), (3, 149), (3, 150), (3, 151), (3, 152), (3, 161), (3, 170), (3, 171), (3, 172), (3, 184), (3, 225)]) hK hO k_h0 rfl hP hD hS hA hEn [] rfl rfl rfl) rfl rfl hl.1 rfl (lv_room (Nat.le_of_ble_eq_true rfl)) dM_keys_50 ⟨by omega, by omega⟩) (fun r71 u46 H locs hu46 hP hD hS => ?_)
            obtain ⟨q41, pl⟩ := u46
            obtain ⟨⟨eq46, rfl, hFc46, ⟨x91, hx_91, hb_91⟩, ⟨x92, hx_92, hb_92⟩, ⟨x93, hx_93, hb_93⟩, -⟩, hO⟩ := hu46
            have hO : okn g T q41.2 pl := hO
            have hP : va_P g.1 vcl ([] ++ pl) _ := hP
            have hD : va_D _ ([] ++ pl) := hD
            have hFc46 : frm (M_M_fail) s21 q41.2 := hFc46
            have hb_91 : x91 = tp := hb_91
            have hb_92 : x92 = rs := hb_92
            have hb_93 : x93 = ks := hb_93
            replace hR := bnd_step hR eq46
            replace hE := bndP_step hE eq46
            have hF := frm_tr hF hFc46 (fun k hk => by unfold M_M_fail at hk; unfold M_M_keys; omega)
            have hg63 : SETS ks (q41.2.1 170) := by rw [hFc46 170 (by unfold M_M_fail; omega)]; exact hg21
            have hg64 : HIDS ks (q41.2.1 171) := by rw [hFc46 171 (by unfold M_M_fail; omega)]; exact hg22
            refine W.widen (k := 0) (n := 0) (by omega) (by omega) ?_
            exact mp_iret hx hb hr hlk hP hD hS ((q41.1, q41.2), pl) ⟨⟨hR.symm, rfl, hF, ⟨x91, hx_91, by omega⟩, ⟨x92, hx_92, by omega⟩, ⟨x93, hx_93, by omega⟩, ⟨ks, (hx_93).trans (congrArg nI (show x93 = ks by omega)), by omega, hg63, hg64⟩, trivial⟩, hO⟩ [] rfl rfl rfl (by omega) (by omega) dM_keys_53
        · replace hR := hR.trans (if_neg h40)
          replace hE := iteP_neg h40 hE
          refine lv_aload_n hx hb dM_keys_33 rfl (lv_at hl 0 rfl) ?_
          refine lv_iconst (v := nI 1) hx hb dM_keys_34 (by decide) ?_
          refine mp_i (cx := []) (wr := []) hP hD hS hA [] [] rfl rfl rfl (by decide) (va_runV (As := [.int (nI 1)]) (rest := []) F (N_M_fail l g _ T s21 pl hO hU h0 (nI 1) tp rs ks k_h0 hf21 hf22 hf23) (cwV 1 hts (wg_app (wg_c kw_1577 (wg_c kw_1579 (wg_c ks_50 (wg_c kw_9 wg_n)))) kw_1580) rfl rfl rfl (by decide +kernel) ⟨by decide, by decide⟩) (pn_W "LatticeKeysModel" (en_ok g) (ci := 8) (kn := 148) (fl := [(0, 0), (0, 0), (0, 0), (0, 0), (3, 149), (3, 150), (3, 151), (3, 152), (3, 161), (3, 170), (3, 171), (3, 172), (3, 184), (3, 225)]) hK hO k_h0 rfl hP hD hS hA hEn [] rfl rfl rfl) rfl rfl hl.1 rfl (lv_room (Nat.le_of_ble_eq_true rfl)) dM_keys_35 ⟨by omega, by omega⟩) (fun r72 u47 H locs hu47 hP hD hS => ?_)
          obtain ⟨q42, pl⟩ := u47
          obtain ⟨⟨eq47, rfl, hFc47, ⟨x95, hx_95, hb_95⟩, ⟨x96, hx_96, hb_96⟩, ⟨x97, hx_97, hb_97⟩, -⟩, hO⟩ := hu47
          have hO : okn g T q42.2 pl := hO
          have hP : va_P g.1 vcl ([] ++ pl) _ := hP
          have hD : va_D _ ([] ++ pl) := hD
          have hFc47 : frm (M_M_fail) s21 q42.2 := hFc47
          have hb_95 : x95 = tp := hb_95
          have hb_96 : x96 = rs := hb_96
          have hb_97 : x97 = ks := hb_97
          replace hR := bnd_step hR eq47
          replace hE := bndP_step hE eq47
          have hF := frm_tr hF hFc47 (fun k hk => by unfold M_M_fail at hk; unfold M_M_keys; omega)
          have hg65 : SETS ks (q42.2.1 170) := by rw [hFc47 170 (by unfold M_M_fail; omega)]; exact hg21
          have hg66 : HIDS ks (q42.2.1 171) := by rw [hFc47 171 (by unfold M_M_fail; omega)]; exact hg22
          refine W.widen (k := 0) (n := 0) (by omega) (by omega) ?_
          exact mp_iret hx hb hr hlk hP hD hS ((q42.1, q42.2), pl) ⟨⟨hR.symm, rfl, hF, ⟨x95, hx_95, by omega⟩, ⟨x96, hx_96, by omega⟩, ⟨x97, hx_97, by omega⟩, ⟨ks, (hx_97).trans (congrArg nI (show x97 = ks by omega)), by omega, hg65, hg66⟩, trivial⟩, hO⟩ [] rfl rfl rfl (by omega) (by omega) dM_keys_38
      replace hR := hR.trans (if_neg hs25)
      replace hE := iteP_neg hs25 hE
      have hs26 : z21 = 5 := by omega
      subst hs26
      refine lv_aload_n hx hb dM_keys_14 rfl (lv_at hl 0 rfl) ?_
      refine nw_get (C := "LatticeKeysModel") (TT := T_M) (N := 14) hx hb hts (wg_ft i_M) hown hK hO k_h0 (kn := 148) (ci := 8) (fl := [(0, 0), (0, 0), (0, 0), (0, 0), (3, 149), (3, 150), (3, 151), (3, 152), (3, 161), (3, 170), (3, 171), (3, 172), (3, 184), (3, 225)]) rfl hP rfl 1 (by decide) (hts _ (wg_t kw_1527)) (fun _ h9 => h9) (cd := (0, 0)) rfl dM_keys_15 (fun v61 hv62 => ?_)
      obtain rfl := (show v61 = .int (s21.1 148 1) from hv62)
      obtain ⟨z47, ez47, hz72, hz73⟩ := cl_of (b := 2147483648) hf21 (by omega) (by decide)
      replace hR := bnd_step hR ez47
      replace hE := bndP_step hE ez47
      refine mi_as hz72 ?_
      refine lv_iload_n hx hb dM_keys_18 rfl (lv_at hl 1 rfl) ?_
      refine lv_iconst (v := nI 3) hx hb dM_keys_19 (by decide) ?_
      refine mi_ge (tgt := 28) hx hb dM_keys_20 (by decide) (by omega) (by omega) (fun h43 => ?_) (fun h43 => absurd h43 (by omega))
      refine lv_bipush (v := nI 32) hx hb dM_keys_28 (by decide) ?_
      refine mi_eq (tgt := 39) hx hb dM_keys_30 (by decide) (by omega) (by omega) (fun h44 => ?_) (fun h44 => ?_)
      · replace hR := hR.trans (if_pos h44)
        replace hE := iteP_pos h44 hE
        refine lv_aload_n hx hb dM_keys_39 rfl (lv_at hl 0 rfl) ?_
        refine nw_get (C := "LatticeKeysModel") (TT := T_M) (N := 14) hx hb hts (wg_ft i_M) hown hK hO k_h0 (kn := 148) (ci := 8) (fl := [(0, 0), (0, 0), (0, 0), (0, 0), (3, 149), (3, 150), (3, 151), (3, 152), (3, 161), (3, 170), (3, 171), (3, 172), (3, 184), (3, 225)]) rfl hP rfl 3 (by decide) (hts _ (wg_t kw_1529)) (fun _ h9 => h9) (cd := (0, 0)) rfl dM_keys_40 (fun v62 hv63 => ?_)
        obtain rfl := (show v62 = .int (s21.1 148 3) from hv63)
        obtain ⟨z48, ez48, hz74, hz75⟩ := cl_of (b := 2147483648) hf23 (by omega) (by decide)
        replace hR := bnd_step hR ez48
        replace hE := bndP_step hE ez48
        refine mi_as hz74 ?_
        refine lv_bipush (v := nI 8) hx hb dM_keys_43 (by decide) ?_
        refine mi_ne (tgt := 54) hx hb dM_keys_45 (by decide) (by omega) (by omega) (fun h45 => ?_) (fun h45 => ?_)
        · replace hR := hR.trans (if_neg h45)
          replace hE := iteP_neg h45 hE
          refine lv_iload_n hx hb dM_keys_54 rfl (lv_at hl 1 rfl) ?_
          refine lv_iconst (v := nI 3) hx hb dM_keys_55 (by decide) ?_
          refine mi_ge (tgt := 92) hx hb dM_keys_56 (by decide) (by omega) (by omega) (fun h46 => ?_) (fun h46 => absurd h46 (by omega))
          refine lv_aload_n hx hb dM_keys_92 rfl (lv_at hl 0 rfl) ?_
          refine nw_get (C := "LatticeKeysModel") (TT := T_M) (N := 14) hx hb hts (wg_ft i_M) hown hK hO k_h0 (kn := 148) (ci := 8) (fl := [(0, 0), (0, 0), (0, 0), (0, 0), (3, 149), (3, 150), (3, 151), (3, 152), (3, 161), (3, 170), (3, 171), (3, 172), (3, 184), (3, 225)]) rfl hP rfl 13 (by decide) (hts _ (wg_t kw_1539)) (fun _ h9 => h9) (cd := (3, 225)) rfl dM_keys_93 (fun v63 hv64 => ?_)
          obtain ⟨r73, rfl, kr51⟩ := (show ∃ r : Nat, v63 = .ref r ∧ T r = some 225 from hv64)
          refine lv_iload_n hx hb dM_keys_96 rfl (lv_at hl 1 rfl) ?_
          refine lv_iconst (v := nI 3) hx hb dM_keys_97 (by decide) ?_
          refine mi_isub hx hb dM_keys_98 (by omega) ?_
          refine mi_as (show nI (5 - 3) = nI 2 from rfl) ?_
          refine lv_aload_n hx hb dM_keys_99 rfl (lv_at hl 0 rfl) ?_
          refine nw_get (C := "LatticeKeysModel") (TT := T_M) (N := 14) hx hb hts (wg_ft i_M) hown hK hO k_h0 (kn := 148) (ci := 8) (fl := [(0, 0), (0, 0), (0, 0), (0, 0), (3, 149), (3, 150), (3, 151), (3, 152), (3, 161), (3, 170), (3, 171), (3, 172), (3, 184), (3, 225)]) rfl hP rfl 4 (by decide) (hts _ (wg_t kw_1530)) (fun _ h9 => h9) (cd := (3, 149)) rfl dM_keys_100 (fun v64 hv65 => ?_)
          obtain ⟨r74, rfl, kr52⟩ := (show ∃ r : Nat, v64 = .ref r ∧ T r = some 149 from hv65)
          refine lv_aload_n hx hb dM_keys_103 rfl (lv_at hl 0 rfl) ?_
          refine nw_get (C := "LatticeKeysModel") (TT := T_M) (N := 14) hx hb hts (wg_ft i_M) hown hK hO k_h0 (kn := 148) (ci := 8) (fl := [(0, 0), (0, 0), (0, 0), (0, 0), (3, 149), (3, 150), (3, 151), (3, 152), (3, 161), (3, 170), (3, 171), (3, 172), (3, 184), (3, 225)]) rfl hP rfl 7 (by decide) (hts _ (wg_t kw_1533)) (fun _ h9 => h9) (cd := (3, 152)) rfl dM_keys_104 (fun v65 hv66 => ?_)
          obtain ⟨r75, rfl, kr53⟩ := (show ∃ r : Nat, v65 = .ref r ∧ T r = some 152 from hv66)
          refine lv_aload_n hx hb dM_keys_107 rfl (lv_at hl 0 rfl) ?_
          refine nw_get (C := "LatticeKeysModel") (TT := T_M) (N := 14) hx hb hts (wg_ft i_M) hown hK hO k_h0 (kn := 148) (ci := 8) (fl := [(0, 0), (0, 0), (0, 0), (0, 0), (3, 149), (3, 150), (3, 151), (3, 152), (3, 161), (3, 170), (3, 171), (3, 172), (3, 184), (3, 225)]) rfl hP rfl 3 (by decide) (hts _ (wg_t kw_1529)) (fun _ h9 => h9) (cd := (0, 0)) rfl dM_keys_108 (fun v66 hv67 => ?_)
          obtain rfl := (show v66 = .int (s21.1 148 3) from hv67)
          obtain ⟨z49, ez49, hz76, hz77⟩ := cl_of (b := 2147483648) hf23 (by omega) (by decide)
          replace hR := bnd_step hR ez49
          replace hE := bndP_step hE ez49
          refine mi_as hz76 ?_
          refine nw_aald4 hx hb hK hO kr53 (k := 152) (b := 153) rfl hP (by omega) (by omega) dM_keys_111 (fun r76 kr54 => ?_)
          have hn31 : nsp (153 + z49) = (1, 2592, []) := rows_okb 153 8 2592 (by decide) _ (by omega)
          refine lv_aload_n hx hb dM_keys_112 rfl (lv_at hl 0 rfl) ?_
          refine nw_get (C := "LatticeKeysModel") (TT := T_M) (N := 14) hx hb hts (wg_ft i_M) hown hK hO k_h0 (kn := 148) (ci := 8) (fl := [(0, 0), (0, 0), (0, 0), (0, 0), (3, 149), (3, 150), (3, 151), (3, 152), (3, 161), (3, 170), (3, 171), (3, 172), (3, 184), (3, 225)]) rfl hP rfl 8 (by decide) (hts _ (wg_t kw_1534)) (fun _ h9 => h9) (cd := (3, 161)) rfl dM_keys_113 (fun v67 hv68 => ?_)
          obtain ⟨r77, rfl, kr55⟩ := (show ∃ r : Nat, v67 = .ref r ∧ T r = some 161 from hv68)
          refine lv_aload_n hx hb dM_keys_116 rfl (lv_at hl 0 rfl) ?_
          refine nw_get (C := "LatticeKeysModel") (TT := T_M) (N := 14) hx hb hts (wg_ft i_M) hown hK hO k_h0 (kn := 148) (ci := 8) (fl := [(0, 0), (0, 0), (0, 0), (0, 0), (3, 149), (3, 150), (3, 151), (3, 152), (3, 161), (3, 170), (3, 171), (3, 172), (3, 184), (3, 225)]) rfl hP rfl 3 (by decide) (hts _ (wg_t kw_1529)) (fun _ h9 => h9) (cd := (0, 0)) rfl dM_keys_117 (fun v68 hv69 => ?_)
          obtain rfl := (show v68 = .int (s21.1 148 3) from hv69)
          obtain ⟨z50, ez50, hz78, hz79⟩ := cl_of (b := 2147483648) hf23 (by omega) (by decide)
          replace hR := bnd_step hR ez50
          replace hE := bndP_step hE ez50
          refine mi_as hz78 ?_
          refine nw_aald4 hx hb hK hO kr55 (k := 161) (b := 162) rfl hP (by omega) (by omega) dM_keys_120 (fun r78 kr56 => ?_)
          have hn32 : nsp (162 + z50) = (1, 4896, []) := rows_okb 162 8 4896 (by decide) _ (by omega)
          refine mp_v (cx := []) (wr := []) hP hD hS hA [] [] rfl rfl rfl (by decide) (va_runV (As := [.int (nI 2), .ref r74, .ref r76, .ref r78]) (rest := []) F (N_MH_keys_2 l g _ T s21 pl hO hU r73 r74 r76 r78 149 16384 (153 + z49) (162 + z50) kr51 kr52 rfl kr54 hn31 kr56 hn32 (by omega) (by omega) hE.1) (cwV 4 hts (wg_app (wg_c kw_1698 (wg_c kw_1699 (wg_c kw_1700 (wg_c kw_13 wg_n)))) kw_1701) rfl rfl rfl (by decide +kernel) ⟨by decide, by decide⟩) (pn_W "LatticeKeysModel$Hands" (en_ok g) (ci := 12) (kn := 225) (fl := [(3, 172), (3, 181), (3, 226), (3, 291), (3, 299), (3, 308), (3, 317), (3, 326), (3, 334), (3, 342), (3, 350), (3, 359), (3, 368), (3, 369), (3, 370), (3, 371), (3, 372), (3, 373), (3, 374), (3, 375), (3, 376), (3, 377), (3, 378), (0, 0), (0, 0), (0, 0), (0, 0), (0, 0), (0, 0), (0, 0), (0, 0)]) hK hO kr51 rfl hP hD hS hA hEn [] rfl rfl rfl) rfl rfl hl.1 rfl (lv_room (Nat.le_of_ble_eq_true rfl)) dM_keys_121 ⟨by omega, by omega⟩) (fun  u48 H locs hu48 hP hD hS => ?_)
          obtain ⟨s27, pl⟩ := u48
          obtain ⟨⟨eq48, hFc48, -⟩, hO⟩ := hu48
          have hO : okn g T s27 pl := hO
          have hP : va_P g.1 vcl ([] ++ pl) _ := hP
          have hD : va_D _ ([] ++ pl) := hD
          have hFc48 : frm (M_MH_keys_2 (153 + z49) (162 + z50)) s21 s27 := hFc48
          clear hE
          replace hR := bnd_step hR eq48
          have hF := frm_tr hF hFc48 (fun k hk => by unfold M_MH_keys_2 at hk; unfold M_M_keys; omega)
          have hf65 : s27.1 148 1 = nI tp := fc_F hf21 hFc48 (by unfold M_MH_keys_2; omega)
          have hf66 : s27.1 148 2 = nI rs := fc_F hf22 hFc48 (by unfold M_MH_keys_2; omega)
          have hf67 : s27.1 148 3 = nI ks := fc_F hf23 hFc48 (by unfold M_MH_keys_2; omega)
          have hf68 : s27.1 148 0 = nI 0 := fc_F hf24 hFc48 (by unfold M_MH_keys_2; omega)
          have hg67 : SETS ks (s27.1 170) := by rw [hFc48 170 (by unfold M_MH_keys_2; omega)]; exact hg21
          have hg68 : HIDS ks (s27.1 171) := by rw [hFc48 171 (by unfold M_MH_keys_2; omega)]; exact hg22
          refine W.widen (k := 0) (n := 0) (by omega) (by omega) ?_
          refine lv_aload_n hx hb dM_keys_124 rfl (lv_at hl 0 rfl) ?_
          refine lv_iload_n hx hb dM_keys_125 rfl (lv_at hl 1 rfl) ?_
          refine lv_iload_n hx hb dM_keys_126 rfl (lv_at hl 1 rfl) ?_
          refine mp_i (cx := []) (wr := []) hP hD hS hA [] [] rfl rfl rfl (by decide) (va_runS (As := [.int (nI 5)]) (rest := [.int (nI 5), .ref h0]) F (N_M_hiddenSize_5 l g _ T s27 pl hO hU ) (va_cwS 1 hts (wg_app (wg_c kw_1747 (wg_c kw_1748 (wg_c kw_9 wg_n))) kw_1749) rfl rfl rfl (by decide +kernel) ⟨by decide, by decide⟩) (pp_S (en_ok g) hP hD hS hA hEn [] rfl rfl) rfl rfl hl.1 rfl (lv_room (Nat.le_of_ble_eq_true rfl)) dM_keys_127 ⟨by omega, by omega⟩) (fun r79 u49 H locs hu49 hP hD hS => ?_)
          obtain ⟨q43, pl⟩ := u49
          obtain ⟨⟨eq49, rfl, hFc49, ⟨x100, hx_100, hb_100⟩, hxp49, -⟩, hO⟩ := hu49
          have hO : okn g T q43.2 pl := hO
          have hP : va_P g.1 vcl ([] ++ pl) _ := hP
          have hD : va_D _ ([] ++ pl) := hD
          have hFc49 : frm (M_M_hiddenSize_5) s27 q43.2 := hFc49
          have hb_100 : x100 < 4897 := hb_100
          replace hR := bnd_step hR eq49
          have hF := frm_tr hF hFc49 (fun k hk => by unfold M_M_hiddenSize_5 at hk; unfold M_M_keys; omega)
          have hf69 : q43.2.1 148 1 = nI tp := fc_F hf65 hFc49 (by unfold M_M_hiddenSize_5; omega)
          have hf70 : q43.2.1 148 2 = nI rs := fc_F hf66 hFc49 (by unfold M_M_hiddenSize_5; omega)
          have hf71 : q43.2.1 148 3 = nI ks := fc_F hf67 hFc49 (by unfold M_M_hiddenSize_5; omega)
          have hf72 : q43.2.1 148 0 = nI 0 := fc_F hf68 hFc49 (by unfold M_M_hiddenSize_5; omega)
          have hg69 : SETS ks (q43.2.1 170) := by rw [hFc49 170 (by unfold M_M_hiddenSize_5; omega)]; exact hg67
          have hg70 : HIDS ks (q43.2.1 171) := by rw [hFc49 171 (by unfold M_M_hiddenSize_5; omega)]; exact hg68
          obtain ⟨z51, ez51, hz80, hz81⟩ := cl_of (b := 2147483648) hx_100 (by omega) (by decide)
          replace hR := bnd_step hR ez51
          refine mi_as hz80 ?_
          have hsz26 : z51 = 4896 := (nI_eq (by omega) (by omega)).mp (hz80.symm.trans hxp49)
          subst hsz26
          refine W.widen (k := 0) (n := 0) (by omega) (by omega) ?_
          refine mp_i (cx := []) (wr := []) hP hD hS hA [] [] rfl rfl rfl (by decide) (va_runV (As := [.int (nI 5), .int (nI 4896)]) (rest := []) F (N_M_madeP l g _ T q43.2 pl hO hU h0 5 4896 tp rs ks k_h0 hf69 hf70 hf71 (by omega) (by omega) (by omega) hg69 hg70) (cwV 2 hts (wg_app (wg_c kw_1756 (wg_c kw_1758 (wg_c ks_64 (wg_c kw_9 wg_n)))) kw_1759) rfl rfl rfl (by decide +kernel) ⟨by decide, by decide⟩) (pn_W "LatticeKeysModel" (en_ok g) (ci := 8) (kn := 148) (fl := [(0, 0), (0, 0), (0, 0), (0, 0), (3, 149), (3, 150), (3, 151), (3, 152), (3, 161), (3, 170), (3, 171), (3, 172), (3, 184), (3, 225)]) hK hO k_h0 rfl hP hD hS hA hEn [] rfl rfl rfl) rfl rfl hl.1 rfl (lv_room (Nat.le_of_ble_eq_true rfl)) dM_keys_130 ⟨by omega, by omega⟩) (fun r80 u50 H locs hu50 hP hD hS => ?_)
          obtain ⟨q44, pl⟩ := u50
          obtain ⟨⟨eq50, rfl, hFc50, ⟨x101, hx_101, hb_101⟩, ⟨x102, hx_102, hb_102⟩, ⟨x103, hx_103, hb_103⟩, hxp50, -⟩, hO⟩ := hu50
          have hO : okn g T q44.2 pl := hO
          have hP : va_P g.1 vcl ([] ++ pl) _ := hP
          have hD : va_D _ ([] ++ pl) := hD
          have hFc50 : frm (M_M_madeP) q43.2 q44.2 := hFc50
          have hb_101 : x101 = 0 := hb_101
          have hb_102 : x102 = rs := hb_102
          have hb_103 : x103 = ks + 1 := hb_103
          replace hR := bnd_step hR eq50
          have hF := frm_tr hF hFc50 (fun k hk => by unfold M_M_madeP at hk; unfold M_M_keys; omega)
          refine W.widen (k := 0) (n := 0) (by omega) (by omega) ?_
          exact mp_iret hx hb hr hlk hP hD hS ((q44.1, q44.2), pl) ⟨⟨hR.symm, rfl, hF, ⟨x101, hx_101, by omega⟩, ⟨x102, hx_102, by omega⟩, ⟨x103, hx_103, by omega⟩, (by obtain ⟨x9, h9, e9, a9, b9⟩ := hxp50; subst e9; exact ⟨_, h9, by omega, a9, b9⟩), trivial⟩, hO⟩ [] rfl rfl rfl (by omega) (by omega) dM_keys_133
        · replace hR := hR.trans (if_pos h45)
          replace hE := iteP_pos h45 hE
          refine lv_aload_n hx hb dM_keys_48 rfl (lv_at hl 0 rfl) ?_
          refine lv_iconst (v := nI 2) hx hb dM_keys_49 (by decide) ?_
          refine mp_i (cx := []) (wr := []) hP hD hS hA [] [] rfl rfl rfl (by decide) (va_runV (As := [.int (nI 2)]) (rest := []) F (N_M_fail l g _ T s21 pl hO hU h0 (nI 2) tp rs ks k_h0 hf21 hf22 hf23) (cwV 1 hts (wg_app (wg_c kw_1577 (wg_c kw_1579 (wg_c ks_50 (wg_c kw_9 wg_n)))) kw_1580) rfl rfl rfl (by decide +kernel) ⟨by decide, by decide⟩) (pn_W "LatticeKeysModel" (en_ok g) (ci := 8) (kn := 148) (fl := [(0, 0), (0, 0), (0, 0), (0, 0), (3, 149), (3, 150), (3, 151), (3, 152), (3, 161), (3, 170), (3, 171), (3, 172), (3, 184), (3, 225)]) hK hO k_h0 rfl hP hD hS hA hEn [] rfl rfl rfl) rfl rfl hl.1 rfl (lv_room (Nat.le_of_ble_eq_true rfl)) dM_keys_50 ⟨by omega, by omega⟩) (fun r81 u51 H locs hu51 hP hD hS => ?_)
          obtain ⟨q45, pl⟩ := u51
          obtain ⟨⟨eq51, rfl, hFc51, ⟨x105, hx_105, hb_105⟩, ⟨x106, hx_106, hb_106⟩, ⟨x107, hx_107, hb_107⟩, -⟩, hO⟩ := hu51
          have hO : okn g T q45.2 pl := hO
          have hP : va_P g.1 vcl ([] ++ pl) _ := hP
          have hD : va_D _ ([] ++ pl) := hD
          have hFc51 : frm (M_M_fail) s21 q45.2 := hFc51
          have hb_105 : x105 = tp := hb_105
          have hb_106 : x106 = rs := hb_106
          have hb_107 : x107 = ks := hb_107
          replace hR := bnd_step hR eq51
          replace hE := bndP_step hE eq51
          have hF := frm_tr hF hFc51 (fun k hk => by unfold M_M_fail at hk; unfold M_M_keys; omega)
          have hg71 : SETS ks (q45.2.1 170) := by rw [hFc51 170 (by unfold M_M_fail; omega)]; exact hg21
          have hg72 : HIDS ks (q45.2.1 171) := by rw [hFc51 171 (by unfold M_M_fail; omega)]; exact hg22
          refine W.widen (k := 0) (n := 0) (by omega) (by omega) ?_
          exact mp_iret hx hb hr hlk hP hD hS ((q45.1, q45.2), pl) ⟨⟨hR.symm, rfl, hF, ⟨x105, hx_105, by omega⟩, ⟨x106, hx_106, by omega⟩, ⟨x107, hx_107, by omega⟩, ⟨ks, (hx_107).trans (congrArg nI (show x107 = ks by omega)), by omega, hg71, hg72⟩, trivial⟩, hO⟩ [] rfl rfl rfl (by omega) (by omega) dM_keys_53
      · replace hR := hR.trans (if_neg h44)
        replace hE := iteP_neg h44 hE
        refine lv_aload_n hx hb dM_keys_33 rfl (lv_at hl 0 rfl) ?_
        refine lv_iconst (v := nI 1) hx hb dM_keys_34 (by decide) ?_
        refine mp_i (cx := []) (wr := []) hP hD hS hA [] [] rfl rfl rfl (by decide) (va_runV (As := [.int (nI 1)]) (rest := []) F (N_M_fail l g _ T s21 pl hO hU h0 (nI 1) tp rs ks k_h0 hf21 hf22 hf23) (cwV 1 hts (wg_app (wg_c kw_1577 (wg_c kw_1579 (wg_c ks_50 (wg_c kw_9 wg_n)))) kw_1580) rfl rfl rfl (by decide +kernel) ⟨by decide, by decide⟩) (pn_W "LatticeKeysModel" (en_ok g) (ci := 8) (kn := 148) (fl := [(0, 0), (0, 0), (0, 0), (0, 0), (3, 149), (3, 150), (3, 151), (3, 152), (3, 161), (3, 170), (3, 171), (3, 172), (3, 184), (3, 225)]) hK hO k_h0 rfl hP hD hS hA hEn [] rfl rfl rfl) rfl rfl hl.1 rfl (lv_room (Nat.le_of_ble_eq_true rfl)) dM_keys_35 ⟨by omega, by omega⟩) (fun r82 u52 H locs hu52 hP hD hS => ?_)
        obtain ⟨q46, pl⟩ := u52
        obtain ⟨⟨eq52, rfl, hFc52, ⟨x109, hx_109, hb_109⟩, ⟨x110, hx_110, hb_110⟩, ⟨x111, hx_111, hb_111⟩, -⟩, hO⟩ := hu52
        have hO : okn g T q46.2 pl := hO
        have hP : va_P g.1 vcl ([] ++ pl) _ := hP
        have hD : va_D _ ([] ++ pl) := hD
        have hFc52 : frm (M_M_fail) s21 q46.2 := hFc52
        have hb_109 : x109 = tp := hb_109
        have hb_110 : x110 = rs := hb_110
        have hb_111 : x111 = ks := hb_111
        replace hR := bnd_step hR eq52
        replace hE := bndP_step hE eq52
        have hF := frm_tr hF hFc52 (fun k hk => by unfold M_M_fail at hk; unfold M_M_keys; omega)
        have hg73 : SETS ks (q46.2.1 170) := by rw [hFc52 170 (by unfold M_M_fail; omega)]; exact hg21
        have hg74 : HIDS ks (q46.2.1 171) := by rw [hFc52 171 (by unfold M_M_fail; omega)]; exact hg22
        refine W.widen (k := 0) (n := 0) (by omega) (by omega) ?_
        exact mp_iret hx hb hr hlk hP hD hS ((q46.1, q46.2), pl) ⟨⟨hR.symm, rfl, hF, ⟨x109, hx_109, by omega⟩, ⟨x110, hx_110, by omega⟩, ⟨x111, hx_111, by omega⟩, ⟨ks, (hx_111).trans (congrArg nI (show x111 = ks by omega)), by omega, hg73, hg74⟩, trivial⟩, hO⟩ [] rfl rfl rfl (by omega) (by omega) dM_keys_38
