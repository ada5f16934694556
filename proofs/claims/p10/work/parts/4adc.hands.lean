set_option linter.all false
abbrev c_MH_small : ByteArray := prog_13_method_8_code
abbrev y_MH_small : MethodName := ⟨"LatticeKeysModel$Hands", "small", "([I[BII)V"⟩
abbrev w_MH_small : List Cond := Cond.code y_MH_small c_MH_small 9 none :: WG
theorem dMH_small_0 : decode c_MH_small 0 = .ok (.aload_n 0, 1) := by decide +kernel
theorem dMH_small_1 : decode c_MH_small 1 = .ok (.getfield 87, 3) := by decide +kernel
theorem dMH_small_4 : decode c_MH_small 4 = .ok (.invokevirtual 156, 3) := by decide +kernel
theorem dMH_small_7 : decode c_MH_small 7 = .ok (.aload_n 0, 1) := by decide +kernel
theorem dMH_small_8 : decode c_MH_small 8 = .ok (.getfield 87, 3) := by decide +kernel
theorem dMH_small_11 : decode c_MH_small 11 = .ok (.aload_n 2, 1) := by decide +kernel
theorem dMH_small_12 : decode c_MH_small 12 = .ok (.iload_n 3, 1) := by decide +kernel
theorem dMH_small_13 : decode c_MH_small 13 = .ok (.bipush 64, 2) := by decide +kernel
theorem dMH_small_15 : decode c_MH_small 15 = .ok (.invokevirtual 142, 3) := by decide +kernel
theorem dMH_small_18 : decode c_MH_small 18 = .ok (.aload_n 0, 1) := by decide +kernel
theorem dMH_small_19 : decode c_MH_small 19 = .ok (.getfield 87, 3) := by decide +kernel
theorem dMH_small_22 : decode c_MH_small 22 = .ok (.iload 4, 2) := by decide +kernel
theorem dMH_small_24 : decode c_MH_small 24 = .ok (.invokevirtual 146, 3) := by decide +kernel
theorem dMH_small_27 : decode c_MH_small 27 = .ok (.aload_n 0, 1) := by decide +kernel
theorem dMH_small_28 : decode c_MH_small 28 = .ok (.getfield 87, 3) := by decide +kernel
theorem dMH_small_31 : decode c_MH_small 31 = .ok (.iload 4, 2) := by decide +kernel
theorem dMH_small_33 : decode c_MH_small 33 = .ok (.bipush 8, 2) := by decide +kernel
theorem dMH_small_35 : decode c_MH_small 35 = .ok (.ishr, 1) := by decide +kernel
theorem dMH_small_36 : decode c_MH_small 36 = .ok (.invokevirtual 146, 3) := by decide +kernel
theorem dMH_small_39 : decode c_MH_small 39 = .ok (.aload_n 0, 1) := by decide +kernel
theorem dMH_small_40 : decode c_MH_small 40 = .ok (.getfield 87, 3) := by decide +kernel
theorem dMH_small_43 : decode c_MH_small 43 = .ok (.invokevirtual 149, 3) := by decide +kernel
theorem dMH_small_46 : decode c_MH_small 46 = .ok (.iconst 0, 1) := by decide +kernel
theorem dMH_small_47 : decode c_MH_small 47 = .ok (.istore 5, 2) := by decide +kernel
theorem dMH_small_49 : decode c_MH_small 49 = .ok (.iload 5, 2) := by decide +kernel
theorem dMH_small_51 : decode c_MH_small 51 = .ok (.sipush 256, 3) := by decide +kernel
theorem dMH_small_54 : decode c_MH_small 54 = .ok (.if_icmp .ge 131, 3) := by decide +kernel
theorem dMH_small_57 : decode c_MH_small 57 = .ok (.aload_n 0, 1) := by decide +kernel
theorem dMH_small_58 : decode c_MH_small 58 = .ok (.getfield 87, 3) := by decide +kernel
theorem dMH_small_61 : decode c_MH_small 61 = .ok (.invokevirtual 152, 3) := by decide +kernel
theorem dMH_small_64 : decode c_MH_small 64 = .ok (.istore 6, 2) := by decide +kernel
theorem dMH_small_66 : decode c_MH_small 66 = .ok (.iconst 0, 1) := by decide +kernel
theorem dMH_small_67 : decode c_MH_small 67 = .ok (.istore 7, 2) := by decide +kernel
theorem dMH_small_69 : decode c_MH_small 69 = .ok (.iload 7, 2) := by decide +kernel
theorem dMH_small_71 : decode c_MH_small 71 = .ok (.iconst 2, 1) := by decide +kernel
theorem dMH_small_72 : decode c_MH_small 72 = .ok (.if_icmp .ge 110, 3) := by decide +kernel
theorem dMH_small_75 : decode c_MH_small 75 = .ok (.iload 5, 2) := by decide +kernel
theorem dMH_small_77 : decode c_MH_small 77 = .ok (.sipush 256, 3) := by decide +kernel
theorem dMH_small_80 : decode c_MH_small 80 = .ok (.if_icmp .ge 102, 3) := by decide +kernel
theorem dMH_small_83 : decode c_MH_small 83 = .ok (.iload 7, 2) := by decide +kernel
theorem dMH_small_85 : decode c_MH_small 85 = .ok (.ifCond .ne 11, 3) := by decide +kernel
theorem dMH_small_88 : decode c_MH_small 88 = .ok (.iload 6, 2) := by decide +kernel
theorem dMH_small_90 : decode c_MH_small 90 = .ok (.bipush 16, 2) := by decide +kernel
theorem dMH_small_92 : decode c_MH_small 92 = .ok (.irem, 1) := by decide +kernel
theorem dMH_small_93 : decode c_MH_small 93 = .ok (.goto 8, 3) := by decide +kernel
theorem dMH_small_96 : decode c_MH_small 96 = .ok (.iload 6, 2) := by decide +kernel
theorem dMH_small_98 : decode c_MH_small 98 = .ok (.bipush 16, 2) := by decide +kernel
theorem dMH_small_100 : decode c_MH_small 100 = .ok (.idiv, 1) := by decide +kernel
theorem dMH_small_101 : decode c_MH_small 101 = .ok (.istore 8, 2) := by decide +kernel
theorem dMH_small_103 : decode c_MH_small 103 = .ok (.aload_n 0, 1) := by decide +kernel
theorem dMH_small_104 : decode c_MH_small 104 = .ok (.getfield 113, 3) := by decide +kernel
theorem dMH_small_107 : decode c_MH_small 107 = .ok (.iconst 2, 1) := by decide +kernel
theorem dMH_small_108 : decode c_MH_small 108 = .ok (.if_icmp .ne 13, 3) := by decide +kernel
theorem dMH_small_111 : decode c_MH_small 111 = .ok (.iload 8, 2) := by decide +kernel
theorem dMH_small_113 : decode c_MH_small 113 = .ok (.bipush 14, 2) := by decide +kernel
theorem dMH_small_115 : decode c_MH_small 115 = .ok (.if_icmp .le 16, 3) := by decide +kernel
theorem dMH_small_118 : decode c_MH_small 118 = .ok (.goto 58, 3) := by decide +kernel
theorem dMH_small_121 : decode c_MH_small 121 = .ok (.iload 8, 2) := by decide +kernel
theorem dMH_small_123 : decode c_MH_small 123 = .ok (.bipush 8, 2) := by decide +kernel
theorem dMH_small_125 : decode c_MH_small 125 = .ok (.if_icmp .le 6, 3) := by decide +kernel
theorem dMH_small_128 : decode c_MH_small 128 = .ok (.goto 48, 3) := by decide +kernel
theorem dMH_small_131 : decode c_MH_small 131 = .ok (.aload_n 0, 1) := by decide +kernel
theorem dMH_small_132 : decode c_MH_small 132 = .ok (.getfield 113, 3) := by decide +kernel
theorem dMH_small_135 : decode c_MH_small 135 = .ok (.iconst 2, 1) := by decide +kernel
theorem dMH_small_136 : decode c_MH_small 136 = .ok (.if_icmp .ne 12, 3) := by decide +kernel
theorem dMH_small_139 : decode c_MH_small 139 = .ok (.iconst 2, 1) := by decide +kernel
theorem dMH_small_140 : decode c_MH_small 140 = .ok (.iload 8, 2) := by decide +kernel
theorem dMH_small_142 : decode c_MH_small 142 = .ok (.iconst 5, 1) := by decide +kernel
theorem dMH_small_143 : decode c_MH_small 143 = .ok (.irem, 1) := by decide +kernel
theorem dMH_small_144 : decode c_MH_small 144 = .ok (.isub, 1) := by decide +kernel
theorem dMH_small_145 : decode c_MH_small 145 = .ok (.goto 7, 3) := by decide +kernel
theorem dMH_small_148 : decode c_MH_small 148 = .ok (.iconst 4, 1) := by decide +kernel
theorem dMH_small_149 : decode c_MH_small 149 = .ok (.iload 8, 2) := by decide +kernel
theorem dMH_small_151 : decode c_MH_small 151 = .ok (.isub, 1) := by decide +kernel
theorem dMH_small_152 : decode c_MH_small 152 = .ok (.istore 8, 2) := by decide +kernel
theorem dMH_small_154 : decode c_MH_small 154 = .ok (.aload_n 1, 1) := by decide +kernel
theorem dMH_small_155 : decode c_MH_small 155 = .ok (.iload 5, 2) := by decide +kernel
theorem dMH_small_157 : decode c_MH_small 157 = .ok (.iload 8, 2) := by decide +kernel
theorem dMH_small_159 : decode c_MH_small 159 = .ok (.ifCond .ge 11, 3) := by decide +kernel
theorem dMH_small_162 : decode c_MH_small 162 = .ok (.iload 8, 2) := by decide +kernel
theorem dMH_small_164 : decode c_MH_small 164 = .ok (.ldc 11, 2) := by decide +kernel
theorem dMH_small_166 : decode c_MH_small 166 = .ok (.iadd, 1) := by decide +kernel
theorem dMH_small_167 : decode c_MH_small 167 = .ok (.goto 5, 3) := by decide +kernel
theorem dMH_small_170 : decode c_MH_small 170 = .ok (.iload 8, 2) := by decide +kernel
theorem dMH_small_172 : decode c_MH_small 172 = .ok (.iastore, 1) := by decide +kernel
theorem dMH_small_173 : decode c_MH_small 173 = .ok (.iinc 5 1, 3) := by decide +kernel
theorem dMH_small_176 : decode c_MH_small 176 = .ok (.iinc 7 1, 3) := by decide +kernel
theorem dMH_small_179 : decode c_MH_small 179 = .ok (.goto (-110), 3) := by decide +kernel
theorem dMH_small_182 : decode c_MH_small 182 = .ok (.goto (-133), 3) := by decide +kernel
theorem dMH_small_185 : decode c_MH_small 185 = .ok (.return_, 1) := by decide +kernel
def M_MH_small_0 (pf : Nat) (k : Nat) : Prop := k = 172 ∨ k = pf ∨ (0 : Nat) = 1
noncomputable def F_MH_small_0_L0 (pf : Nat) : Nat → Nat → Sto → Sto
  | 0, nn21, s26 => s26
  | n21 + 1, nn21, s26 => if 256 ≤ nn21 then s26 else bnd (F_MS_next  s26) fun q21 => bnd (q21.1.toNatClampNeg) fun z21 => if 256 ≤ nn21 then F_MH_small_0_L0 pf n21 nn21 q21.2 else bnd ((q21.2.1 225 26).toNatClampNeg) fun z22 => if z21 % 16 ≤ 14 then bnd ((q21.2.1 225 26).toNatClampNeg) fun z23 => bnd (((nI 2) - (nI ((z21 % 16) % 5)))) fun z24 => if 0 ≤ z24 then bnd (sI q21.2 pf nn21 z24) fun s27 => if 256 ≤ nn21 + 1 then F_MH_small_0_L0 pf n21 (nn21 + 1) s27 else bnd ((s27.1 225 26).toNatClampNeg) fun z25 => if z21 / 16 ≤ 14 then bnd ((s27.1 225 26).toNatClampNeg) fun z26 => bnd (((nI 2) - (nI ((z21 / 16) % 5)))) fun z27 => if 0 ≤ z27 then bnd (sI s27 pf (nn21 + 1) z27) fun s28 => F_MH_small_0_L0 pf n21 (nn21 + 1 + 1) s28 else bnd (sI s27 pf (nn21 + 1) (z27 + (nI 8380417))) fun s29 => F_MH_small_0_L0 pf n21 (nn21 + 1 + 1) s29 else F_MH_small_0_L0 pf n21 (nn21 + 1) s27 else bnd (sI q21.2 pf nn21 (z24 + (nI 8380417))) fun s30 => if 256 ≤ nn21 + 1 then F_MH_small_0_L0 pf n21 (nn21 + 1) s30 else bnd ((s30.1 225 26).toNatClampNeg) fun z28 => if z21 / 16 ≤ 14 then bnd ((s30.1 225 26).toNatClampNeg) fun z29 => bnd (((nI 2) - (nI ((z21 / 16) % 5)))) fun z30 => if 0 ≤ z30 then bnd (sI s30 pf (nn21 + 1) z30) fun s31 => F_MH_small_0_L0 pf n21 (nn21 + 1 + 1) s31 else bnd (sI s30 pf (nn21 + 1) (z30 + (nI 8380417))) fun s32 => F_MH_small_0_L0 pf n21 (nn21 + 1 + 1) s32 else F_MH_small_0_L0 pf n21 (nn21 + 1) s30 else if 256 ≤ nn21 then F_MH_small_0_L0 pf n21 nn21 q21.2 else bnd ((q21.2.1 225 26).toNatClampNeg) fun z31 => if z21 / 16 ≤ 14 then bnd ((q21.2.1 225 26).toNatClampNeg) fun z32 => bnd (((nI 2) - (nI ((z21 / 16) % 5)))) fun z33 => if 0 ≤ z33 then bnd (sI q21.2 pf nn21 z33) fun s33 => F_MH_small_0_L0 pf n21 (nn21 + 1) s33 else bnd (sI q21.2 pf nn21 (z33 + (nI 8380417))) fun s34 => F_MH_small_0_L0 pf n21 (nn21 + 1) s34 else F_MH_small_0_L0 pf n21 nn21 q21.2
noncomputable def E_MH_small_0_L0 (pf : Nat) : Nat → Nat → Sto → Prop
  | 0, nn21, s26 => (256 ≤ nn21) ∧ (True)
  | n21 + 1, nn21, s26 => if 256 ≤ nn21 then True else bnd (F_MS_next  s26) fun q21 => bnd (q21.1.toNatClampNeg) fun z21 => if 256 ≤ nn21 then E_MH_small_0_L0 pf n21 nn21 q21.2 else bnd ((q21.2.1 225 26).toNatClampNeg) fun z22 => if z21 % 16 ≤ 14 then bnd ((q21.2.1 225 26).toNatClampNeg) fun z23 => bnd (((nI 2) - (nI ((z21 % 16) % 5)))) fun z24 => if 0 ≤ z24 then bnd (sI q21.2 pf nn21 z24) fun s27 => if 256 ≤ nn21 + 1 then E_MH_small_0_L0 pf n21 (nn21 + 1) s27 else bnd ((s27.1 225 26).toNatClampNeg) fun z25 => if z21 / 16 ≤ 14 then bnd ((s27.1 225 26).toNatClampNeg) fun z26 => bnd (((nI 2) - (nI ((z21 / 16) % 5)))) fun z27 => if 0 ≤ z27 then bnd (sI s27 pf (nn21 + 1) z27) fun s28 => E_MH_small_0_L0 pf n21 (nn21 + 1 + 1) s28 else bnd (sI s27 pf (nn21 + 1) (z27 + (nI 8380417))) fun s29 => E_MH_small_0_L0 pf n21 (nn21 + 1 + 1) s29 else E_MH_small_0_L0 pf n21 (nn21 + 1) s27 else bnd (sI q21.2 pf nn21 (z24 + (nI 8380417))) fun s30 => if 256 ≤ nn21 + 1 then E_MH_small_0_L0 pf n21 (nn21 + 1) s30 else bnd ((s30.1 225 26).toNatClampNeg) fun z28 => if z21 / 16 ≤ 14 then bnd ((s30.1 225 26).toNatClampNeg) fun z29 => bnd (((nI 2) - (nI ((z21 / 16) % 5)))) fun z30 => if 0 ≤ z30 then bnd (sI s30 pf (nn21 + 1) z30) fun s31 => E_MH_small_0_L0 pf n21 (nn21 + 1 + 1) s31 else bnd (sI s30 pf (nn21 + 1) (z30 + (nI 8380417))) fun s32 => E_MH_small_0_L0 pf n21 (nn21 + 1 + 1) s32 else E_MH_small_0_L0 pf n21 (nn21 + 1) s30 else if 256 ≤ nn21 then E_MH_small_0_L0 pf n21 nn21 q21.2 else bnd ((q21.2.1 225 26).toNatClampNeg) fun z31 => if z21 / 16 ≤ 14 then bnd ((q21.2.1 225 26).toNatClampNeg) fun z32 => bnd (((nI 2) - (nI ((z21 / 16) % 5)))) fun z33 => if 0 ≤ z33 then bnd (sI q21.2 pf nn21 z33) fun s33 => E_MH_small_0_L0 pf n21 (nn21 + 1) s33 else bnd (sI q21.2 pf nn21 (z33 + (nI 8380417))) fun s34 => E_MH_small_0_L0 pf n21 (nn21 + 1) s34 else E_MH_small_0_L0 pf n21 nn21 q21.2
noncomputable def F_MH_small_0 (pf : Nat) (pb : Nat) (n : Nat) (at_ : Nat) (wh : Int32) (s : Sto) : Sto := bnd (F_MS_shake  s) fun s21 => bnd (F_MS_puts pb n at_ 64 s21) fun s22 => bnd (F_MS_put wh s22) fun s23 => bnd (F_MS_put (wh >>> ((nI 8) &&& 31)) s23) fun s24 => bnd (F_MS_end  s24) fun s25 => F_MH_small_0_L0 pf fuelM 0 s25
noncomputable def E_MH_small_0 (pf : Nat) (pb : Nat) (n : Nat) (at_ : Nat) (wh : Int32) (s : Sto) : Prop := bnd (F_MS_shake  s) fun s21 => bnd (F_MS_puts pb n at_ 64 s21) fun s22 => bnd (F_MS_put wh s22) fun s23 => bnd (F_MS_put (wh >>> ((nI 8) &&& 31)) s23) fun s24 => bnd (F_MS_end  s24) fun s25 => E_MH_small_0_L0 pf fuelM 0 s25
set_option maxHeartbeats 8000000 in
set_option maxRecDepth 100000 in
theorem N_MH_small_0 (l : Launch) (g : Gd) (sz : Nat) (T : TyN) (s : Sto) (pl : va_W) (hO : okn g T s pl) (hU : inj T) (h0 f b : Nat) (pf : Nat) (pb : Nat) (n : Nat) (at_ : Nat) (wh : Int32) (k_h0 : T h0 = some 225) (k_f : T f = some pf) (n_f : nsp pf = (0, 256, [])) (k_b : T b = some pb) (n_b : nsp pb = (1, n, [])) (e_c0 : s.1 225 23 = nI 0) (e_c1 : s.1 225 24 = nI 4) (e_c2 : s.1 225 25 = nI 4) (e_c3 : s.1 225 26 = nI 2) (e_c4 : s.1 225 27 = nI 131072) (e_c5 : s.1 225 28 = nI 95232) (e_c6 : s.1 225 29 = nI 78) (e_c7 : s.1 225 30 = nI 32) (h1 : at_ + 64 ≤ n) (h2 : n < 65536) (hE : E_MH_small_0 pf pb n at_ wh s)  : Met l y_MH_small w_MH_small ({ frames := 4, cells := 0, slots := 0, locals := 90 } : Room) (va_Pc [.ref h0, .ref f, .ref b, .int (nI at_), .int wh] (pr (en g) g.1 vcl sz ([] ++ pl))) (va_Qv (fun (u : (Sto) × va_W) => (u.1 = F_MH_small_0 pf pb n at_ wh s ∧ frm (M_MH_small_0 pf) s u.1 ∧ True) ∧ okn g T u.1 u.2) (po g.1 vcl (va_A ([] ++ pl) sz) (fun (u : (Sto) × va_W) => [] ++ u.2)) (va_A ([] ++ pl) sz)) 0 0 (va_A ([] ++ pl) sz) := by
  refine mc_entry (cc := c_MH_small) (maxL := 9) (ret := none) (by decide) rfl (Nat.le_of_ble_eq_true rfl) ?_
  intro p e s0 m args below meth c ls F hr hlk hnm hsz hP hD hEn hA hl
  obtain ⟨hx, hb, hml, hown, hts⟩ := id F
  have hK := hEn.1
  generalize va_A ([] ++ pl) sz = A at hD hEn hA ⊢
  have hS : va_S A s0.heap s0.heap [] := va_S.rf
  have hl : lv_has ls 9 [(0, .ref h0), (1, .ref f), (2, .ref b), (3, .int (nI at_)), (4, .int wh)] := hl
  have hR : F_MH_small_0 pf pb n at_ wh s = F_MH_small_0 pf pb n at_ wh s := rfl
  have hF : frm (M_MH_small_0 pf) s s := frm_rf
  have ne_172_pf : 172 ≠ pf := nsp_ne (p := 172) rfl n_f (show (5 : Nat) ≠ 0 by decide)
  have ne_172_pb : 172 ≠ pb := nsp_ne (p := 172) rfl n_b (show (5 : Nat) ≠ 1 by decide)
  have ne_225_pf : 225 ≠ pf := nsp_ne (p := 225) rfl n_f (show (5 : Nat) ≠ 0 by decide)
  have ne_225_pb : 225 ≠ pb := nsp_ne (p := 225) rfl n_b (show (5 : Nat) ≠ 1 by decide)
  refine lv_aload_n hx hb dMH_small_0 rfl (lv_at hl 0 rfl) ?_
  refine nw_get (C := "LatticeKeysModel$Hands") (TT := T_MH) (N := 31) hx hb hts (wg_ft i_MH) hown hK hO k_h0 (kn := 225) (ci := 12) (fl := [(3, 172), (3, 181), (3, 226), (3, 291), (3, 299), (3, 308), (3, 317), (3, 326), (3, 334), (3, 342), (3, 350), (3, 359), (3, 368), (3, 369), (3, 370), (3, 371), (3, 372), (3, 373), (3, 374), (3, 375), (3, 376), (3, 377), (3, 378), (0, 0), (0, 0), (0, 0), (0, 0), (0, 0), (0, 0), (0, 0), (0, 0)]) rfl hP rfl 0 (by decide) (hts _ (wg_t kw_1432)) (fun _ h9 => h9) (cd := (3, 172)) rfl dMH_small_1 (fun v21 hv21 => ?_)
  obtain ⟨r21, rfl, kr21⟩ := (show ∃ r : Nat, v21 = .ref r ∧ T r = some 172 from hv21)
  refine mp_v (cx := []) (wr := []) hP hD hS hA [] [] rfl rfl rfl (by decide) (va_runV (As := []) (rest := []) F (N_MS_shake l g _ T s pl hO hU r21 kr21) (cwV 0 hts (wg_app (wg_c kw_1718 (wg_c kw_1661 (wg_c kw_1662 (wg_c kw_10 wg_n)))) kw_1663) rfl rfl rfl (by decide +kernel) ⟨by decide, by decide⟩) (pn_W "LatticeKeysModel$Sponge" (en_ok g) (ci := 9) (kn := 172) (fl := [(3, 173), (3, 174), (3, 175), (3, 176), (3, 177), (0, 0), (0, 0), (0, 0)]) hK hO kr21 rfl hP hD hS hA hEn [] rfl rfl rfl) rfl rfl hl.1 rfl (lv_room (Nat.le_of_ble_eq_true rfl)) dMH_small_4 ⟨by omega, by omega⟩) (fun  u21 H locs hu21 hP hD hS => ?_)
  obtain ⟨s21, pl⟩ := u21
  obtain ⟨⟨eq21, hFc21, ⟨x21, hx_21, hb_21⟩, ⟨x22, hx_22, hb_22⟩, -⟩, hO⟩ := hu21
  have hO : okn g T s21 pl := hO
  have hP : va_P g.1 vcl ([] ++ pl) _ := hP
  have hD : va_D _ ([] ++ pl) := hD
  have hFc21 : frm (M_MS_shake) s s21 := hFc21
  have hb_21 : x21 = 0 := hb_21
  have hb_22 : x22 = 136 := hb_22
  replace hR := bnd_step hR eq21
  first | rw [bnd_step rfl eq21] at hE | replace hE := bndP_step hE eq21
  have hF := frm_tr hF hFc21 (fun k hk => by unfold M_MS_shake at hk; unfold M_MH_small_0; omega)
  have hf21 : s21.1 225 23 = nI 0 := fc_F e_c0 hFc21 (by unfold M_MS_shake; omega)
  have hf22 : s21.1 225 24 = nI 4 := fc_F e_c1 hFc21 (by unfold M_MS_shake; omega)
  have hf23 : s21.1 225 25 = nI 4 := fc_F e_c2 hFc21 (by unfold M_MS_shake; omega)
  have hf24 : s21.1 225 26 = nI 2 := fc_F e_c3 hFc21 (by unfold M_MS_shake; omega)
  have hf25 : s21.1 225 27 = nI 131072 := fc_F e_c4 hFc21 (by unfold M_MS_shake; omega)
  have hf26 : s21.1 225 28 = nI 95232 := fc_F e_c5 hFc21 (by unfold M_MS_shake; omega)
  have hf27 : s21.1 225 29 = nI 78 := fc_F e_c6 hFc21 (by unfold M_MS_shake; omega)
  have hf28 : s21.1 225 30 = nI 32 := fc_F e_c7 hFc21 (by unfold M_MS_shake; omega)
  refine W.widen (k := 0) (n := 0) (by omega) (by omega) ?_
  refine lv_aload_n hx hb dMH_small_7 rfl (lv_at hl 0 rfl) ?_
  refine nw_get (C := "LatticeKeysModel$Hands") (TT := T_MH) (N := 31) hx hb hts (wg_ft i_MH) hown hK hO k_h0 (kn := 225) (ci := 12) (fl := [(3, 172), (3, 181), (3, 226), (3, 291), (3, 299), (3, 308), (3, 317), (3, 326), (3, 334), (3, 342), (3, 350), (3, 359), (3, 368), (3, 369), (3, 370), (3, 371), (3, 372), (3, 373), (3, 374), (3, 375), (3, 376), (3, 377), (3, 378), (0, 0), (0, 0), (0, 0), (0, 0), (0, 0), (0, 0), (0, 0), (0, 0)]) rfl hP rfl 0 (by decide) (hts _ (wg_t kw_1432)) (fun _ h9 => h9) (cd := (3, 172)) rfl dMH_small_8 (fun v22 hv22 => ?_)
  obtain ⟨r22, rfl, kr22⟩ := (show ∃ r : Nat, v22 = .ref r ∧ T r = some 172 from hv22)
  refine lv_aload_n hx hb dMH_small_11 rfl (lv_at hl 2 rfl) ?_
  refine lv_iload_n hx hb dMH_small_12 rfl (lv_at hl 3 rfl) ?_
  refine lv_bipush (v := nI 64) hx hb dMH_small_13 (by decide) ?_
  refine mp_v (cx := []) (wr := []) hP hD hS hA [] [] rfl rfl rfl (by decide) (va_runV (As := [.ref b, .int (nI at_), .int (nI 64)]) (rest := []) F (N_MS_puts l g _ T s21 pl hO hU r22 b pb n at_ 64 x21 x22 kr22 k_b n_b hx_21 hx_22 (by omega) (by omega) (by omega) (by omega)) (cwV 3 hts (wg_app (wg_c kw_1719 (wg_c kw_1612 (wg_c kw_1613 (wg_c kw_10 wg_n)))) kw_1614) rfl rfl rfl (by decide +kernel) ⟨by decide, by decide⟩) (pn_W "LatticeKeysModel$Sponge" (en_ok g) (ci := 9) (kn := 172) (fl := [(3, 173), (3, 174), (3, 175), (3, 176), (3, 177), (0, 0), (0, 0), (0, 0)]) hK hO kr22 rfl hP hD hS hA hEn [] rfl rfl rfl) rfl rfl hl.1 rfl (lv_room (Nat.le_of_ble_eq_true rfl)) dMH_small_15 ⟨by omega, by omega⟩) (fun  u22 H locs hu22 hP hD hS => ?_)
  obtain ⟨s22, pl⟩ := u22
  obtain ⟨⟨eq22, hFc22, ⟨x24, hx_24, hb_24⟩, ⟨x25, hx_25, hb_25⟩, -⟩, hO⟩ := hu22
  have hO : okn g T s22 pl := hO
  have hP : va_P g.1 vcl ([] ++ pl) _ := hP
  have hD : va_D _ ([] ++ pl) := hD
  have hFc22 : frm (M_MS_puts) s21 s22 := hFc22
  have hb_24 : x24 < x22 := hb_24
  have hb_25 : x25 = x22 := hb_25
  replace hR := bnd_step hR eq22
  first | rw [bnd_step rfl eq22] at hE | replace hE := bndP_step hE eq22
  have hF := frm_tr hF hFc22 (fun k hk => by unfold M_MS_puts at hk; unfold M_MH_small_0; omega)
  have hf29 : s22.1 225 23 = nI 0 := fc_F hf21 hFc22 (by unfold M_MS_puts; omega)
  have hf30 : s22.1 225 24 = nI 4 := fc_F hf22 hFc22 (by unfold M_MS_puts; omega)
  have hf31 : s22.1 225 25 = nI 4 := fc_F hf23 hFc22 (by unfold M_MS_puts; omega)
  have hf32 : s22.1 225 26 = nI 2 := fc_F hf24 hFc22 (by unfold M_MS_puts; omega)
  have hf33 : s22.1 225 27 = nI 131072 := fc_F hf25 hFc22 (by unfold M_MS_puts; omega)
  have hf34 : s22.1 225 28 = nI 95232 := fc_F hf26 hFc22 (by unfold M_MS_puts; omega)
  have hf35 : s22.1 225 29 = nI 78 := fc_F hf27 hFc22 (by unfold M_MS_puts; omega)
  have hf36 : s22.1 225 30 = nI 32 := fc_F hf28 hFc22 (by unfold M_MS_puts; omega)
  refine W.widen (k := 0) (n := 0) (by omega) (by omega) ?_
  refine lv_aload_n hx hb dMH_small_18 rfl (lv_at hl 0 rfl) ?_
  refine nw_get (C := "LatticeKeysModel$Hands") (TT := T_MH) (N := 31) hx hb hts (wg_ft i_MH) hown hK hO k_h0 (kn := 225) (ci := 12) (fl := [(3, 172), (3, 181), (3, 226), (3, 291), (3, 299), (3, 308), (3, 317), (3, 326), (3, 334), (3, 342), (3, 350), (3, 359), (3, 368), (3, 369), (3, 370), (3, 371), (3, 372), (3, 373), (3, 374), (3, 375), (3, 376), (3, 377), (3, 378), (0, 0), (0, 0), (0, 0), (0, 0), (0, 0), (0, 0), (0, 0), (0, 0)]) rfl hP rfl 0 (by decide) (hts _ (wg_t kw_1432)) (fun _ h9 => h9) (cd := (3, 172)) rfl dMH_small_19 (fun v23 hv23 => ?_)
  obtain ⟨r23, rfl, kr23⟩ := (show ∃ r : Nat, v23 = .ref r ∧ T r = some 172 from hv23)
  refine lv_iload hx hb dMH_small_22 (lv_at hl 4 rfl) ?_
  refine mp_v (cx := []) (wr := []) hP hD hS hA [] [] rfl rfl rfl (by decide) (va_runV (As := [.int wh]) (rest := []) F (N_MS_put l g _ T s22 pl hO hU r23 wh x24 x25 kr23 hx_24 hx_25 (by omega) (by omega)) (cwV 1 hts (wg_app (wg_c kw_1720 (wg_c kw_1616 (wg_c kw_1617 (wg_c kw_10 wg_n)))) kw_1618) rfl rfl rfl (by decide +kernel) ⟨by decide, by decide⟩) (pn_W "LatticeKeysModel$Sponge" (en_ok g) (ci := 9) (kn := 172) (fl := [(3, 173), (3, 174), (3, 175), (3, 176), (3, 177), (0, 0), (0, 0), (0, 0)]) hK hO kr23 rfl hP hD hS hA hEn [] rfl rfl rfl) rfl rfl hl.1 rfl (lv_room (Nat.le_of_ble_eq_true rfl)) dMH_small_24 ⟨by omega, by omega⟩) (fun  u23 H locs hu23 hP hD hS => ?_)
  obtain ⟨s23, pl⟩ := u23
  obtain ⟨⟨eq23, hFc23, ⟨x27, hx_27, hb_27⟩, ⟨x28, hx_28, hb_28⟩, -⟩, hO⟩ := hu23
  have hO : okn g T s23 pl := hO
  have hP : va_P g.1 vcl ([] ++ pl) _ := hP
  have hD : va_D _ ([] ++ pl) := hD
  have hFc23 : frm (M_MS_put) s22 s23 := hFc23
  have hb_27 : x27 < x25 := hb_27
  have hb_28 : x28 = x25 := hb_28
  replace hR := bnd_step hR eq23
  first | rw [bnd_step rfl eq23] at hE | replace hE := bndP_step hE eq23
  have hF := frm_tr hF hFc23 (fun k hk => by unfold M_MS_put at hk; unfold M_MH_small_0; omega)
  have hf37 : s23.1 225 23 = nI 0 := fc_F hf29 hFc23 (by unfold M_MS_put; omega)
  have hf38 : s23.1 225 24 = nI 4 := fc_F hf30 hFc23 (by unfold M_MS_put; omega)
  have hf39 : s23.1 225 25 = nI 4 := fc_F hf31 hFc23 (by unfold M_MS_put; omega)
  have hf40 : s23.1 225 26 = nI 2 := fc_F hf32 hFc23 (by unfold M_MS_put; omega)
  have hf41 : s23.1 225 27 = nI 131072 := fc_F hf33 hFc23 (by unfold M_MS_put; omega)
  have hf42 : s23.1 225 28 = nI 95232 := fc_F hf34 hFc23 (by unfold M_MS_put; omega)
  have hf43 : s23.1 225 29 = nI 78 := fc_F hf35 hFc23 (by unfold M_MS_put; omega)
  have hf44 : s23.1 225 30 = nI 32 := fc_F hf36 hFc23 (by unfold M_MS_put; omega)
  refine W.widen (k := 0) (n := 0) (by omega) (by omega) ?_
  refine lv_aload_n hx hb dMH_small_27 rfl (lv_at hl 0 rfl) ?_
  refine nw_get (C := "LatticeKeysModel$Hands") (TT := T_MH) (N := 31) hx hb hts (wg_ft i_MH) hown hK hO k_h0 (kn := 225) (ci := 12) (fl := [(3, 172), (3, 181), (3, 226), (3, 291), (3, 299), (3, 308), (3, 317), (3, 326), (3, 334), (3, 342), (3, 350), (3, 359), (3, 368), (3, 369), (3, 370), (3, 371), (3, 372), (3, 373), (3, 374), (3, 375), (3, 376), (3, 377), (3, 378), (0, 0), (0, 0), (0, 0), (0, 0), (0, 0), (0, 0), (0, 0), (0, 0)]) rfl hP rfl 0 (by decide) (hts _ (wg_t kw_1432)) (fun _ h9 => h9) (cd := (3, 172)) rfl dMH_small_28 (fun v24 hv24 => ?_)
  obtain ⟨r24, rfl, kr24⟩ := (show ∃ r : Nat, v24 = .ref r ∧ T r = some 172 from hv24)
  refine lv_iload hx hb dMH_small_31 (lv_at hl 4 rfl) ?_
  refine lv_bipush (v := nI 8) hx hb dMH_small_33 (by decide) ?_
  refine lv_ishr hx hb dMH_small_35 ?_
  refine mp_v (cx := []) (wr := []) hP hD hS hA [] [] rfl rfl rfl (by decide) (va_runV (As := [.int ((wh >>> ((nI 8) &&& 31)))]) (rest := []) F (N_MS_put l g _ T s23 pl hO hU r24 (wh >>> ((nI 8) &&& 31)) x27 x28 kr24 hx_27 hx_28 (by omega) (by omega)) (cwV 1 hts (wg_app (wg_c kw_1720 (wg_c kw_1616 (wg_c kw_1617 (wg_c kw_10 wg_n)))) kw_1618) rfl rfl rfl (by decide +kernel) ⟨by decide, by decide⟩) (pn_W "LatticeKeysModel$Sponge" (en_ok g) (ci := 9) (kn := 172) (fl := [(3, 173), (3, 174), (3, 175), (3, 176), (3, 177), (0, 0), (0, 0), (0, 0)]) hK hO kr24 rfl hP hD hS hA hEn [] rfl rfl rfl) rfl rfl hl.1 rfl (lv_room (Nat.le_of_ble_eq_true rfl)) dMH_small_36 ⟨by omega, by omega⟩) (fun  u24 H locs hu24 hP hD hS => ?_)
  obtain ⟨s24, pl⟩ := u24
  obtain ⟨⟨eq24, hFc24, ⟨x30, hx_30, hb_30⟩, ⟨x31, hx_31, hb_31⟩, -⟩, hO⟩ := hu24
  have hO : okn g T s24 pl := hO
  have hP : va_P g.1 vcl ([] ++ pl) _ := hP
  have hD : va_D _ ([] ++ pl) := hD
  have hFc24 : frm (M_MS_put) s23 s24 := hFc24
  have hb_30 : x30 < x28 := hb_30
  have hb_31 : x31 = x28 := hb_31
  replace hR := bnd_step hR eq24
  first | rw [bnd_step rfl eq24] at hE | replace hE := bndP_step hE eq24
  have hF := frm_tr hF hFc24 (fun k hk => by unfold M_MS_put at hk; unfold M_MH_small_0; omega)
  have hf45 : s24.1 225 23 = nI 0 := fc_F hf37 hFc24 (by unfold M_MS_put; omega)
  have hf46 : s24.1 225 24 = nI 4 := fc_F hf38 hFc24 (by unfold M_MS_put; omega)
  have hf47 : s24.1 225 25 = nI 4 := fc_F hf39 hFc24 (by unfold M_MS_put; omega)
  have hf48 : s24.1 225 26 = nI 2 := fc_F hf40 hFc24 (by unfold M_MS_put; omega)
  have hf49 : s24.1 225 27 = nI 131072 := fc_F hf41 hFc24 (by unfold M_MS_put; omega)
  have hf50 : s24.1 225 28 = nI 95232 := fc_F hf42 hFc24 (by unfold M_MS_put; omega)
  have hf51 : s24.1 225 29 = nI 78 := fc_F hf43 hFc24 (by unfold M_MS_put; omega)
  have hf52 : s24.1 225 30 = nI 32 := fc_F hf44 hFc24 (by unfold M_MS_put; omega)
  refine W.widen (k := 0) (n := 0) (by omega) (by omega) ?_
  refine lv_aload_n hx hb dMH_small_39 rfl (lv_at hl 0 rfl) ?_
  refine nw_get (C := "LatticeKeysModel$Hands") (TT := T_MH) (N := 31) hx hb hts (wg_ft i_MH) hown hK hO k_h0 (kn := 225) (ci := 12) (fl := [(3, 172), (3, 181), (3, 226), (3, 291), (3, 299), (3, 308), (3, 317), (3, 326), (3, 334), (3, 342), (3, 350), (3, 359), (3, 368), (3, 369), (3, 370), (3, 371), (3, 372), (3, 373), (3, 374), (3, 375), (3, 376), (3, 377), (3, 378), (0, 0), (0, 0), (0, 0), (0, 0), (0, 0), (0, 0), (0, 0), (0, 0)]) rfl hP rfl 0 (by decide) (hts _ (wg_t kw_1432)) (fun _ h9 => h9) (cd := (3, 172)) rfl dMH_small_40 (fun v25 hv25 => ?_)
  obtain ⟨r25, rfl, kr25⟩ := (show ∃ r : Nat, v25 = .ref r ∧ T r = some 172 from hv25)
  refine mp_v (cx := []) (wr := []) hP hD hS hA [] [] rfl rfl rfl (by decide) (va_runV (As := []) (rest := []) F (N_MS_end l g _ T s24 pl hO hU r25 x30 x31 kr25 hx_30 hx_31 (by omega) (by omega)) (cwV 0 hts (wg_app (wg_c kw_1721 (wg_c kw_1634 (wg_c kw_1635 (wg_c kw_10 wg_n)))) kw_1636) rfl rfl rfl (by decide +kernel) ⟨by decide, by decide⟩) (pn_W "LatticeKeysModel$Sponge" (en_ok g) (ci := 9) (kn := 172) (fl := [(3, 173), (3, 174), (3, 175), (3, 176), (3, 177), (0, 0), (0, 0), (0, 0)]) hK hO kr25 rfl hP hD hS hA hEn [] rfl rfl rfl) rfl rfl hl.1 rfl (lv_room (Nat.le_of_ble_eq_true rfl)) dMH_small_43 ⟨by omega, by omega⟩) (fun  u25 H locs hu25 hP hD hS => ?_)
  obtain ⟨s25, pl⟩ := u25
  obtain ⟨⟨eq25, hFc25, ⟨x33, hx_33, hb_33⟩, ⟨x34, hx_34, hb_34⟩, -⟩, hO⟩ := hu25
  have hO : okn g T s25 pl := hO
  have hP : va_P g.1 vcl ([] ++ pl) _ := hP
  have hD : va_D _ ([] ++ pl) := hD
  have hFc25 : frm (M_MS_end) s24 s25 := hFc25
  have hb_33 : x33 = 0 := hb_33
  have hb_34 : x34 = x31 := hb_34
  replace hR := bnd_step hR eq25
  first | rw [bnd_step rfl eq25] at hE | replace hE := bndP_step hE eq25
  have hF := frm_tr hF hFc25 (fun k hk => by unfold M_MS_end at hk; unfold M_MH_small_0; omega)
  have hf53 : s25.1 225 23 = nI 0 := fc_F hf45 hFc25 (by unfold M_MS_end; omega)
  have hf54 : s25.1 225 24 = nI 4 := fc_F hf46 hFc25 (by unfold M_MS_end; omega)
  have hf55 : s25.1 225 25 = nI 4 := fc_F hf47 hFc25 (by unfold M_MS_end; omega)
  have hf56 : s25.1 225 26 = nI 2 := fc_F hf48 hFc25 (by unfold M_MS_end; omega)
  have hf57 : s25.1 225 27 = nI 131072 := fc_F hf49 hFc25 (by unfold M_MS_end; omega)
  have hf58 : s25.1 225 28 = nI 95232 := fc_F hf50 hFc25 (by unfold M_MS_end; omega)
  have hf59 : s25.1 225 29 = nI 78 := fc_F hf51 hFc25 (by unfold M_MS_end; omega)
  have hf60 : s25.1 225 30 = nI 32 := fc_F hf52 hFc25 (by unfold M_MS_end; omega)
  refine W.widen (k := 0) (n := 0) (by omega) (by omega) ?_
  refine lv_iconst (v := nI 0) hx hb dMH_small_46 (by decide) ?_
  refine lv_istore (lv' := [(5, .int (nI 0)), (0, .ref h0), (1, .ref f), (2, .ref b), (3, .int (nI at_)), (4, .int wh)]) hx hb dMH_small_47 hl (by decide) rfl (fun ls hl => ?_)
  have lp21 : ∀ (n21 : Nat) (nn21 : Nat) (s26 : Sto) (ps21 : Nat) (pl : va_W) (ls : Array Slot) (H : Heap) (locs : List Loc), 0 = 0 → (nn21 ≤ 256) → (ps21 ≤ 136) → frm (M_MH_small_0 pf) s s26 → s26.1 225 23 = nI 0 → s26.1 225 24 = nI 4 → s26.1 225 25 = nI 4 → s26.1 225 26 = nI 2 → s26.1 225 27 = nI 131072 → s26.1 225 28 = nI 95232 → s26.1 225 29 = nI 78 → s26.1 225 30 = nI 32 → s26.1 172 6 = nI ps21 → s26.1 172 5 = nI x34 → E_MH_small_0_L0 pf n21 nn21 s26 → F_MH_small_0 pf pb n at_ wh s = F_MH_small_0_L0 pf n21 nn21 s26 → lv_has ls 9 [(5, .int (nI nn21)), (0, .ref h0), (1, .ref f)] → okn g T s26 pl → va_P g.1 vcl ([] ++ pl) H → va_D A ([] ++ pl) → va_S A s0.heap H locs → W p l e ({ frames := 4, cells := 0, slots := 0, locals := 90 } : Room) s0 m args below meth c H locs 0 0 (MQ below (va_Qv (fun (u : (Sto) × va_W) => (u.1 = F_MH_small_0 pf pb n at_ wh s ∧ frm (M_MH_small_0 pf) s u.1 ∧ True) ∧ okn g T u.1 u.2) (po g.1 vcl A (fun (u : (Sto) × va_W) => [] ++ u.2)) A) args s0 0 0 A) (F0 m 49 ls []) := by
    intro n21
    induction n21 with
    | zero =>
      intro nn21 s26 ps21 pl ls H locs hm21 hi21 hi22 hF hf61 hf62 hf63 hf64 hf65 hf66 hf67 hf68 hf69 hf70 hE hR hl hO hP hD hS
      refine lv_iload hx hb dMH_small_49 (lv_at hl 0 rfl) ?_
      refine lv_sipush (v := nI 256) hx hb dMH_small_51 (by decide) ?_
      refine mi_ge (tgt := 185) hx hb dMH_small_54 (by decide) (by omega) (by omega) (fun h21 => ?_) (fun h21 => absurd h21 (by have h9 : 256 ≤ nn21 := hE.1; omega))
      replace hE := hE.2
      exact mp_vret hx hb hr hlk hP hD hS (s26, pl) ⟨⟨hR.symm, hF, trivial⟩, hO⟩ [] rfl rfl rfl (by omega) (by omega) dMH_small_185
    | succ n21 ih21 =>
      intro nn21 s26 ps21 pl ls H locs hm21 hi21 hi22 hF hf71 hf72 hf73 hf74 hf75 hf76 hf77 hf78 hf79 hf80 hE hR hl hO hP hD hS
      refine lv_iload hx hb dMH_small_49 (lv_at hl 0 rfl) ?_
      refine lv_sipush (v := nI 256) hx hb dMH_small_51 (by decide) ?_
      refine mi_ge (tgt := 185) hx hb dMH_small_54 (by decide) (by omega) (by omega) (fun h22 => ?_) (fun h22 => ?_)
      · replace hR := hR.trans (if_pos h22)
        first | rw [if_pos h22] at hE | rw [E_MH_small_0_L0, if_pos h22] at hE | rw [E_MH_small_0_L1, if_pos h22] at hE | rw [E_MH_small_0_L2, if_pos h22] at hE | rw [E_MH_small_0_L3, if_pos h22] at hE | rw [E_MH_small_0_L4, if_pos h22] at hE | rw [E_MH_small_0_L5, if_pos h22] at hE | rw [E_MH_small_0_L6, if_pos h22] at hE | rw [E_MH_small_0_L7, if_pos h22] at hE | rw [E_MH_small_0_L8, if_pos h22] at hE | replace hE := iteP_pos h22 hE
        exact mp_vret hx hb hr hlk hP hD hS (s26, pl) ⟨⟨hR.symm, hF, trivial⟩, hO⟩ [] rfl rfl rfl (by omega) (by omega) dMH_small_185
      · replace hR := hR.trans (if_neg (Nat.not_le.mpr h22))
        first | rw [if_neg (Nat.not_le.mpr h22)] at hE | rw [E_MH_small_0_L0, if_neg (Nat.not_le.mpr h22)] at hE | rw [E_MH_small_0_L1, if_neg (Nat.not_le.mpr h22)] at hE | rw [E_MH_small_0_L2, if_neg (Nat.not_le.mpr h22)] at hE | rw [E_MH_small_0_L3, if_neg (Nat.not_le.mpr h22)] at hE | rw [E_MH_small_0_L4, if_neg (Nat.not_le.mpr h22)] at hE | rw [E_MH_small_0_L5, if_neg (Nat.not_le.mpr h22)] at hE | rw [E_MH_small_0_L6, if_neg (Nat.not_le.mpr h22)] at hE | rw [E_MH_small_0_L7, if_neg (Nat.not_le.mpr h22)] at hE | rw [E_MH_small_0_L8, if_neg (Nat.not_le.mpr h22)] at hE | replace hE := iteP_neg (Nat.not_le.mpr h22) hE
        refine lv_aload_n hx hb dMH_small_57 rfl (lv_at hl 1 rfl) ?_
        refine nw_get (C := "LatticeKeysModel$Hands") (TT := T_MH) (N := 31) hx hb hts (wg_ft i_MH) hown hK hO k_h0 (kn := 225) (ci := 12) (fl := [(3, 172), (3, 181), (3, 226), (3, 291), (3, 299), (3, 308), (3, 317), (3, 326), (3, 334), (3, 342), (3, 350), (3, 359), (3, 368), (3, 369), (3, 370), (3, 371), (3, 372), (3, 373), (3, 374), (3, 375), (3, 376), (3, 377), (3, 378), (0, 0), (0, 0), (0, 0), (0, 0), (0, 0), (0, 0), (0, 0), (0, 0)]) rfl hP rfl 0 (by decide) (hts _ (wg_t kw_1432)) (fun _ h9 => h9) (cd := (3, 172)) rfl dMH_small_58 (fun v26 hv26 => ?_)
        obtain ⟨r26, rfl, kr26⟩ := (show ∃ r : Nat, v26 = .ref r ∧ T r = some 172 from hv26)
        refine mp_i (cx := []) (wr := []) hP hD hS hA [] [] rfl rfl rfl (by decide) (va_runV (As := []) (rest := []) F (N_MS_next l g _ T s26 pl hO hU r26 ps21 x34 kr26 hf79 hf80 (by omega) (by omega)) (cwV 0 hts (wg_app (wg_c kw_1728 (wg_c kw_1642 (wg_c kw_1643 (wg_c kw_10 wg_n)))) kw_1644) rfl rfl rfl (by decide +kernel) ⟨by decide, by decide⟩) (pn_W "LatticeKeysModel$Sponge" (en_ok g) (ci := 9) (kn := 172) (fl := [(3, 173), (3, 174), (3, 175), (3, 176), (3, 177), (0, 0), (0, 0), (0, 0)]) hK hO kr26 rfl hP hD hS hA hEn [] rfl rfl rfl) rfl rfl hl.1 rfl (lv_room (Nat.le_of_ble_eq_true rfl)) dMH_small_61 ⟨by omega, by omega⟩) (fun r27 u26 H locs hu26 hP hD hS => ?_)
        obtain ⟨q21, pl⟩ := u26
        obtain ⟨⟨eq26, rfl, hFc26, ⟨x38, hx_38, hb_38⟩, ⟨x36, hx_36, hb_36⟩, ⟨x37, hx_37, hb_37⟩, -⟩, hO⟩ := hu26
        have hO : okn g T q21.2 pl := hO
        have hP : va_P g.1 vcl ([] ++ pl) _ := hP
        have hD : va_D _ ([] ++ pl) := hD
        have hFc26 : frm (M_MS_next) s26 q21.2 := hFc26
        have hb_36 : x36 ≤ x34 := hb_36
        have hb_37 : x37 = x34 := hb_37
        have hb_38 : x38 < 256 := hb_38
        replace hR := bnd_step hR eq26
        first | rw [bnd_step rfl eq26] at hE | replace hE := bndP_step hE eq26
        have hF := frm_tr hF hFc26 (fun k hk => by unfold M_MS_next at hk; unfold M_MH_small_0; omega)
        have hf81 : q21.2.1 225 23 = nI 0 := fc_F hf71 hFc26 (by unfold M_MS_next; omega)
        have hf82 : q21.2.1 225 24 = nI 4 := fc_F hf72 hFc26 (by unfold M_MS_next; omega)
        have hf83 : q21.2.1 225 25 = nI 4 := fc_F hf73 hFc26 (by unfold M_MS_next; omega)
        have hf84 : q21.2.1 225 26 = nI 2 := fc_F hf74 hFc26 (by unfold M_MS_next; omega)
        have hf85 : q21.2.1 225 27 = nI 131072 := fc_F hf75 hFc26 (by unfold M_MS_next; omega)
        have hf86 : q21.2.1 225 28 = nI 95232 := fc_F hf76 hFc26 (by unfold M_MS_next; omega)
        have hf87 : q21.2.1 225 29 = nI 78 := fc_F hf77 hFc26 (by unfold M_MS_next; omega)
        have hf88 : q21.2.1 225 30 = nI 32 := fc_F hf78 hFc26 (by unfold M_MS_next; omega)
        obtain ⟨z21, ez21, hz21, hz22⟩ := cl_of (b := 2147483648) hx_38 (by omega) (by decide)
        replace hR := bnd_step hR ez21
        first | rw [bnd_step rfl ez21] at hE | replace hE := bndP_step hE ez21
        refine mi_as hz21 ?_
        refine W.widen (k := 0) (n := 0) (by omega) (by omega) ?_
        refine lv_istore (lv' := [(6, .int (nI z21)), (5, .int (nI nn21)), (0, .ref h0), (1, .ref f)]) hx hb dMH_small_64 hl (by decide) rfl (fun ls hl => ?_)
        refine lv_iconst (v := nI 0) hx hb dMH_small_66 (by decide) ?_
        refine lv_istore (lv' := [(7, .int (nI 0)), (6, .int (nI z21)), (5, .int (nI nn21)), (0, .ref h0), (1, .ref f)]) hx hb dMH_small_67 hl (by decide) rfl (fun ls hl => ?_)
        refine lv_iload hx hb dMH_small_69 (lv_at hl 0 rfl) ?_
        refine lv_iconst (v := nI 2) hx hb dMH_small_71 (by decide) ?_
        refine mi_ge (tgt := 182) hx hb dMH_small_72 (by decide) (by omega) (by omega) (fun h23 => absurd h23 (by omega)) (fun h23 => ?_)
        refine lv_iload hx hb dMH_small_75 (lv_at hl 2 rfl) ?_
        refine lv_sipush (v := nI 256) hx hb dMH_small_77 (by decide) ?_
        refine mi_ge (tgt := 182) hx hb dMH_small_80 (by decide) (by omega) (by omega) (fun h24 => ?_) (fun h24 => ?_)
        · replace hR := hR.trans (if_pos h24)
          first | rw [if_pos h24] at hE | rw [E_MH_small_0_L0, if_pos h24] at hE | rw [E_MH_small_0_L1, if_pos h24] at hE | rw [E_MH_small_0_L2, if_pos h24] at hE | rw [E_MH_small_0_L3, if_pos h24] at hE | rw [E_MH_small_0_L4, if_pos h24] at hE | rw [E_MH_small_0_L5, if_pos h24] at hE | rw [E_MH_small_0_L6, if_pos h24] at hE | rw [E_MH_small_0_L7, if_pos h24] at hE | rw [E_MH_small_0_L8, if_pos h24] at hE | replace hE := iteP_pos h24 hE
          refine lv_goto (tgt := 49) hx hb dMH_small_182 (by decide) ?_
          exact ih21 nn21 q21.2 x36 pl ls H locs (by omega) (by omega) (by omega) hF hf81 hf82 hf83 hf84 hf85 hf86 hf87 hf88 hx_36 (by have h9 := hx_37; rw [show x37 = x34 by omega] at h9; exact h9) hE hR (lv_sub hl [2, 3, 4] rfl) hO hP hD hS
        · replace hR := hR.trans (if_neg (Nat.not_le.mpr h24))
          first | rw [if_neg (Nat.not_le.mpr h24)] at hE | rw [E_MH_small_0_L0, if_neg (Nat.not_le.mpr h24)] at hE | rw [E_MH_small_0_L1, if_neg (Nat.not_le.mpr h24)] at hE | rw [E_MH_small_0_L2, if_neg (Nat.not_le.mpr h24)] at hE | rw [E_MH_small_0_L3, if_neg (Nat.not_le.mpr h24)] at hE | rw [E_MH_small_0_L4, if_neg (Nat.not_le.mpr h24)] at hE | rw [E_MH_small_0_L5, if_neg (Nat.not_le.mpr h24)] at hE | rw [E_MH_small_0_L6, if_neg (Nat.not_le.mpr h24)] at hE | rw [E_MH_small_0_L7, if_neg (Nat.not_le.mpr h24)] at hE | rw [E_MH_small_0_L8, if_neg (Nat.not_le.mpr h24)] at hE | replace hE := iteP_neg (Nat.not_le.mpr h24) hE
          refine lv_iload hx hb dMH_small_83 (lv_at hl 0 rfl) ?_
          refine lv_if_ne (tgt := 96) hx hb dMH_small_85 (by decide) (fun h25 => absurd h25 (by decide)) (fun h25 => ?_)
          refine lv_iload hx hb dMH_small_88 (lv_at hl 1 rfl) ?_
          refine lv_bipush (v := nI 16) hx hb dMH_small_90 (by decide) ?_
          refine mi_irem hx hb dMH_small_92 (by omega) (by omega) (by omega) ?_
          refine lv_goto (tgt := 101) hx hb dMH_small_93 (by decide) ?_
          refine lv_istore (lv' := [(8, .int (nI (z21 % 16))), (7, .int (nI 0)), (6, .int (nI z21)), (5, .int (nI nn21)), (0, .ref h0), (1, .ref f)]) hx hb dMH_small_101 hl (by decide) rfl (fun ls hl => ?_)
          refine lv_aload_n hx hb dMH_small_103 rfl (lv_at hl 4 rfl) ?_
          refine nw_get (C := "LatticeKeysModel$Hands") (TT := T_MH) (N := 31) hx hb hts (wg_ft i_MH) hown hK hO k_h0 (kn := 225) (ci := 12) (fl := [(3, 172), (3, 181), (3, 226), (3, 291), (3, 299), (3, 308), (3, 317), (3, 326), (3, 334), (3, 342), (3, 350), (3, 359), (3, 368), (3, 369), (3, 370), (3, 371), (3, 372), (3, 373), (3, 374), (3, 375), (3, 376), (3, 377), (3, 378), (0, 0), (0, 0), (0, 0), (0, 0), (0, 0), (0, 0), (0, 0), (0, 0)]) rfl hP rfl 26 (by decide) (hts _ (wg_t kw_1458)) (fun _ h9 => h9) (cd := (0, 0)) rfl dMH_small_104 (fun v27 hv27 => ?_)
          obtain rfl := (show v27 = .int (q21.2.1 225 26) from hv27)
          obtain ⟨z22, ez22, hz23, hz24⟩ := cl_of (b := 2147483648) hf84 (by omega) (by decide)
          replace hR := bnd_step hR ez22
          first | rw [bnd_step rfl ez22] at hE | replace hE := bndP_step hE ez22
          refine mi_as hz23 ?_
          subst hz24
          refine lv_iconst (v := nI 2) hx hb dMH_small_107 (by decide) ?_
          refine mi_ne (tgt := 121) hx hb dMH_small_108 (by decide) (by omega) (by omega) (fun h26 => absurd h26 (by omega)) (fun h26 => ?_)
          refine lv_iload hx hb dMH_small_111 (lv_at hl 0 rfl) ?_
          refine lv_bipush (v := nI 14) hx hb dMH_small_113 (by decide) ?_
          refine mi_le (tgt := 131) hx hb dMH_small_115 (by decide) (by omega) (by omega) (fun h27 => ?_) (fun h27 => ?_)
          · replace hR := hR.trans (if_pos h27)
            first | rw [if_pos h27] at hE | rw [E_MH_small_0_L0, if_pos h27] at hE | rw [E_MH_small_0_L1, if_pos h27] at hE | rw [E_MH_small_0_L2, if_pos h27] at hE | rw [E_MH_small_0_L3, if_pos h27] at hE | rw [E_MH_small_0_L4, if_pos h27] at hE | rw [E_MH_small_0_L5, if_pos h27] at hE | rw [E_MH_small_0_L6, if_pos h27] at hE | rw [E_MH_small_0_L7, if_pos h27] at hE | rw [E_MH_small_0_L8, if_pos h27] at hE | replace hE := iteP_pos h27 hE
            refine lv_aload_n hx hb dMH_small_131 rfl (lv_at hl 4 rfl) ?_
            refine nw_get (C := "LatticeKeysModel$Hands") (TT := T_MH) (N := 31) hx hb hts (wg_ft i_MH) hown hK hO k_h0 (kn := 225) (ci := 12) (fl := [(3, 172), (3, 181), (3, 226), (3, 291), (3, 299), (3, 308), (3, 317), (3, 326), (3, 334), (3, 342), (3, 350), (3, 359), (3, 368), (3, 369), (3, 370), (3, 371), (3, 372), (3, 373), (3, 374), (3, 375), (3, 376), (3, 377), (3, 378), (0, 0), (0, 0), (0, 0), (0, 0), (0, 0), (0, 0), (0, 0), (0, 0)]) rfl hP rfl 26 (by decide) (hts _ (wg_t kw_1458)) (fun _ h9 => h9) (cd := (0, 0)) rfl dMH_small_132 (fun v28 hv28 => ?_)
            obtain rfl := (show v28 = .int (q21.2.1 225 26) from hv28)
            obtain ⟨z23, ez23, hz25, hz26⟩ := cl_of (b := 2147483648) hf84 (by omega) (by decide)
            replace hR := bnd_step hR ez23
            first | rw [bnd_step rfl ez23] at hE | replace hE := bndP_step hE ez23
            refine mi_as hz25 ?_
            subst hz26
            refine lv_iconst (v := nI 2) hx hb dMH_small_135 (by decide) ?_
            refine mi_ne (tgt := 148) hx hb dMH_small_136 (by decide) (by omega) (by omega) (fun h28 => absurd h28 (by omega)) (fun h28 => ?_)
            refine lv_iconst (v := nI 2) hx hb dMH_small_139 (by decide) ?_
            refine lv_iload hx hb dMH_small_140 (lv_at hl 0 rfl) ?_
            refine lv_iconst (v := nI 5) hx hb dMH_small_142 (by decide) ?_
            refine mi_irem hx hb dMH_small_143 (by omega) (by omega) (by omega) ?_
            refine lv_isub hx hb dMH_small_144 ?_
            refine lv_goto (tgt := 152) hx hb dMH_small_145 (by decide) ?_
            refine mi_eqv (fun z24 ez24 => ?_)
            replace hR := bnd_step hR ez24
            first | rw [bnd_step rfl ez24] at hE | replace hE := bndP_step hE ez24
            refine lv_istore (lv' := [(8, .int z24), (7, .int (nI 0)), (6, .int (nI z21)), (5, .int (nI nn21)), (0, .ref h0), (1, .ref f)]) hx hb dMH_small_152 hl (by decide) rfl (fun ls hl => ?_)
            refine lv_aload_n hx hb dMH_small_154 rfl (lv_at hl 5 rfl) ?_
            refine lv_iload hx hb dMH_small_155 (lv_at hl 3 rfl) ?_
            refine lv_iload hx hb dMH_small_157 (lv_at hl 0 rfl) ?_
            refine lv_if_ge (tgt := 170) hx hb dMH_small_159 (by decide) (fun h29 => ?_) (fun h29 => ?_)
            · replace hR := hR.trans (if_pos h29)
              first | rw [if_pos h29] at hE | rw [E_MH_small_0_L0, if_pos h29] at hE | rw [E_MH_small_0_L1, if_pos h29] at hE | rw [E_MH_small_0_L2, if_pos h29] at hE | rw [E_MH_small_0_L3, if_pos h29] at hE | rw [E_MH_small_0_L4, if_pos h29] at hE | rw [E_MH_small_0_L5, if_pos h29] at hE | rw [E_MH_small_0_L6, if_pos h29] at hE | rw [E_MH_small_0_L7, if_pos h29] at hE | rw [E_MH_small_0_L8, if_pos h29] at hE | replace hE := iteP_pos h29 hE
              refine lv_iload hx hb dMH_small_170 (lv_at hl 0 rfl) ?_
              refine nw_iast hx hb hK hO hU k_f (k := pf) n_f hP hD hS (by omega) (by omega) dMH_small_172 (fun s27 pl H locs es21 hO hP hD hS => ?_)
              replace hR := bnd_step hR es21
              first | rw [bnd_step rfl es21] at hE | replace hE := bndP_step hE es21
              have hF := frm_sI hF es21 (by unfold M_MH_small_0; omega)
              have hf89 : s27.1 225 23 = nI 0 := fc_ne hf81 es21 (by omega)
              have hf90 : s27.1 225 24 = nI 4 := fc_ne hf82 es21 (by omega)
              have hf91 : s27.1 225 25 = nI 4 := fc_ne hf83 es21 (by omega)
              have hf92 : s27.1 225 26 = nI 2 := fc_ne hf84 es21 (by omega)
              have hf93 : s27.1 225 27 = nI 131072 := fc_ne hf85 es21 (by omega)
              have hf94 : s27.1 225 28 = nI 95232 := fc_ne hf86 es21 (by omega)
              have hf95 : s27.1 225 29 = nI 78 := fc_ne hf87 es21 (by omega)
              have hf96 : s27.1 225 30 = nI 32 := fc_ne hf88 es21 (by omega)
              have hf97 : s27.1 172 6 = nI x36 := fc_ne hx_36 es21 (by omega)
              have hf98 : s27.1 172 5 = nI x37 := fc_ne hx_37 es21 (by omega)
              refine mi_iinc (k := 3) (x := nn21) (d := 1) (y := nn21 + 1) (lv' := [(5, .int (nI (nn21 + 1))), (8, .int z24), (7, .int (nI 0)), (6, .int (nI z21)), (0, .ref h0), (1, .ref f)]) hx hb dMH_small_173 hl rfl (by decide) rfl (by decide) rfl (fun ls hl => ?_)
              refine mi_iinc (k := 2) (x := 0) (d := 1) (y := 1) (lv' := [(7, .int (nI 1)), (5, .int (nI (nn21 + 1))), (8, .int z24), (6, .int (nI z21)), (0, .ref h0), (1, .ref f)]) hx hb dMH_small_176 hl rfl (by decide) rfl (by decide) rfl (fun ls hl => ?_)
              refine lv_goto (tgt := 69) hx hb dMH_small_179 (by decide) ?_
              refine lv_iload hx hb dMH_small_69 (lv_at hl 0 rfl) ?_
              refine lv_iconst (v := nI 2) hx hb dMH_small_71 (by decide) ?_
              refine mi_ge (tgt := 182) hx hb dMH_small_72 (by decide) (by omega) (by omega) (fun h30 => absurd h30 (by omega)) (fun h30 => ?_)
              refine lv_iload hx hb dMH_small_75 (lv_at hl 1 rfl) ?_
              refine lv_sipush (v := nI 256) hx hb dMH_small_77 (by decide) ?_
              refine mi_ge (tgt := 182) hx hb dMH_small_80 (by decide) (by omega) (by omega) (fun h31 => ?_) (fun h31 => ?_)
              · replace hR := hR.trans (if_pos h31)
                first | rw [if_pos h31] at hE | rw [E_MH_small_0_L0, if_pos h31] at hE | rw [E_MH_small_0_L1, if_pos h31] at hE | rw [E_MH_small_0_L2, if_pos h31] at hE | rw [E_MH_small_0_L3, if_pos h31] at hE | rw [E_MH_small_0_L4, if_pos h31] at hE | rw [E_MH_small_0_L5, if_pos h31] at hE | rw [E_MH_small_0_L6, if_pos h31] at hE | rw [E_MH_small_0_L7, if_pos h31] at hE | rw [E_MH_small_0_L8, if_pos h31] at hE | replace hE := iteP_pos h31 hE
                refine lv_goto (tgt := 49) hx hb dMH_small_182 (by decide) ?_
                exact ih21 (nn21 + 1) s27 x36 pl ls H locs (by omega) (by omega) (by omega) hF hf89 hf90 hf91 hf92 hf93 hf94 hf95 hf96 hf97 (by have h9 := hf98; rw [show x37 = x34 by omega] at h9; exact h9) hE hR (lv_sub hl [1, 4, 5] rfl) hO hP hD hS
              · replace hR := hR.trans (if_neg (Nat.not_le.mpr h31))
                first | rw [if_neg (Nat.not_le.mpr h31)] at hE | rw [E_MH_small_0_L0, if_neg (Nat.not_le.mpr h31)] at hE | rw [E_MH_small_0_L1, if_neg (Nat.not_le.mpr h31)] at hE | rw [E_MH_small_0_L2, if_neg (Nat.not_le.mpr h31)] at hE | rw [E_MH_small_0_L3, if_neg (Nat.not_le.mpr h31)] at hE | rw [E_MH_small_0_L4, if_neg (Nat.not_le.mpr h31)] at hE | rw [E_MH_small_0_L5, if_neg (Nat.not_le.mpr h31)] at hE | rw [E_MH_small_0_L6, if_neg (Nat.not_le.mpr h31)] at hE | rw [E_MH_small_0_L7, if_neg (Nat.not_le.mpr h31)] at hE | rw [E_MH_small_0_L8, if_neg (Nat.not_le.mpr h31)] at hE | replace hE := iteP_neg (Nat.not_le.mpr h31) hE
                refine lv_iload hx hb dMH_small_83 (lv_at hl 0 rfl) ?_
                refine lv_if_ne (tgt := 96) hx hb dMH_small_85 (by decide) (fun h32 => ?_) (fun h32 => absurd h32 (by decide))
                refine lv_iload hx hb dMH_small_96 (lv_at hl 3 rfl) ?_
                refine lv_bipush (v := nI 16) hx hb dMH_small_98 (by decide) ?_
                refine mi_idiv hx hb dMH_small_100 (by omega) (by omega) (by omega) ?_
                refine lv_istore (lv' := [(8, .int (nI (z21 / 16))), (7, .int (nI 1)), (5, .int (nI (nn21 + 1))), (6, .int (nI z21)), (0, .ref h0), (1, .ref f)]) hx hb dMH_small_101 hl (by decide) rfl (fun ls hl => ?_)
                refine lv_aload_n hx hb dMH_small_103 rfl (lv_at hl 4 rfl) ?_
                refine nw_get (C := "LatticeKeysModel$Hands") (TT := T_MH) (N := 31) hx hb hts (wg_ft i_MH) hown hK hO k_h0 (kn := 225) (ci := 12) (fl := [(3, 172), (3, 181), (3, 226), (3, 291), (3, 299), (3, 308), (3, 317), (3, 326), (3, 334), (3, 342), (3, 350), (3, 359), (3, 368), (3, 369), (3, 370), (3, 371), (3, 372), (3, 373), (3, 374), (3, 375), (3, 376), (3, 377), (3, 378), (0, 0), (0, 0), (0, 0), (0, 0), (0, 0), (0, 0), (0, 0), (0, 0)]) rfl hP rfl 26 (by decide) (hts _ (wg_t kw_1458)) (fun _ h9 => h9) (cd := (0, 0)) rfl dMH_small_104 (fun v29 hv29 => ?_)
                obtain rfl := (show v29 = .int (s27.1 225 26) from hv29)
                obtain ⟨z25, ez25, hz27, hz28⟩ := cl_of (b := 2147483648) hf92 (by omega) (by decide)
                replace hR := bnd_step hR ez25
                first | rw [bnd_step rfl ez25] at hE | replace hE := bndP_step hE ez25
                refine mi_as hz27 ?_
                subst hz28
                refine lv_iconst (v := nI 2) hx hb dMH_small_107 (by decide) ?_
                refine mi_ne (tgt := 121) hx hb dMH_small_108 (by decide) (by omega) (by omega) (fun h33 => absurd h33 (by omega)) (fun h33 => ?_)
                refine lv_iload hx hb dMH_small_111 (lv_at hl 0 rfl) ?_
                refine lv_bipush (v := nI 14) hx hb dMH_small_113 (by decide) ?_
                refine mi_le (tgt := 131) hx hb dMH_small_115 (by decide) (by omega) (by omega) (fun h34 => ?_) (fun h34 => ?_)
                · replace hR := hR.trans (if_pos h34)
                  first | rw [if_pos h34] at hE | rw [E_MH_small_0_L0, if_pos h34] at hE | rw [E_MH_small_0_L1, if_pos h34] at hE | rw [E_MH_small_0_L2, if_pos h34] at hE | rw [E_MH_small_0_L3, if_pos h34] at hE | rw [E_MH_small_0_L4, if_pos h34] at hE | rw [E_MH_small_0_L5, if_pos h34] at hE | rw [E_MH_small_0_L6, if_pos h34] at hE | rw [E_MH_small_0_L7, if_pos h34] at hE | rw [E_MH_small_0_L8, if_pos h34] at hE | replace hE := iteP_pos h34 hE
                  refine lv_aload_n hx hb dMH_small_131 rfl (lv_at hl 4 rfl) ?_
                  refine nw_get (C := "LatticeKeysModel$Hands") (TT := T_MH) (N := 31) hx hb hts (wg_ft i_MH) hown hK hO k_h0 (kn := 225) (ci := 12) (fl := [(3, 172), (3, 181), (3, 226), (3, 291), (3, 299), (3, 308), (3, 317), (3, 326), (3, 334), (3, 342), (3, 350), (3, 359), (3, 368), (3, 369), (3, 370), (3, 371), (3, 372), (3, 373), (3, 374), (3, 375), (3, 376), (3, 377), (3, 378), (0, 0), (0, 0), (0, 0), (0, 0), (0, 0), (0, 0), (0, 0), (0, 0)]) rfl hP rfl 26 (by decide) (hts _ (wg_t kw_1458)) (fun _ h9 => h9) (cd := (0, 0)) rfl dMH_small_132 (fun v30 hv30 => ?_)
                  obtain rfl := (show v30 = .int (s27.1 225 26) from hv30)
                  obtain ⟨z26, ez26, hz29, hz30⟩ := cl_of (b := 2147483648) hf92 (by omega) (by decide)
                  replace hR := bnd_step hR ez26
                  first | rw [bnd_step rfl ez26] at hE | replace hE := bndP_step hE ez26
                  refine mi_as hz29 ?_
                  subst hz30
                  refine lv_iconst (v := nI 2) hx hb dMH_small_135 (by decide) ?_
                  refine mi_ne (tgt := 148) hx hb dMH_small_136 (by decide) (by omega) (by omega) (fun h35 => absurd h35 (by omega)) (fun h35 => ?_)
                  refine lv_iconst (v := nI 2) hx hb dMH_small_139 (by decide) ?_
                  refine lv_iload hx hb dMH_small_140 (lv_at hl 0 rfl) ?_
                  refine lv_iconst (v := nI 5) hx hb dMH_small_142 (by decide) ?_
                  refine mi_irem hx hb dMH_small_143 (by omega) (by omega) (by omega) ?_
                  refine lv_isub hx hb dMH_small_144 ?_
                  refine lv_goto (tgt := 152) hx hb dMH_small_145 (by decide) ?_
                  refine mi_eqv (fun z27 ez27 => ?_)
                  replace hR := bnd_step hR ez27
                  first | rw [bnd_step rfl ez27] at hE | replace hE := bndP_step hE ez27
                  refine lv_istore (lv' := [(8, .int z27), (7, .int (nI 1)), (5, .int (nI (nn21 + 1))), (6, .int (nI z21)), (0, .ref h0), (1, .ref f)]) hx hb dMH_small_152 hl (by decide) rfl (fun ls hl => ?_)
                  refine lv_aload_n hx hb dMH_small_154 rfl (lv_at hl 5 rfl) ?_
                  refine lv_iload hx hb dMH_small_155 (lv_at hl 2 rfl) ?_
                  refine lv_iload hx hb dMH_small_157 (lv_at hl 0 rfl) ?_
                  refine lv_if_ge (tgt := 170) hx hb dMH_small_159 (by decide) (fun h36 => ?_) (fun h36 => ?_)
                  · replace hR := hR.trans (if_pos h36)
                    first | rw [if_pos h36] at hE | rw [E_MH_small_0_L0, if_pos h36] at hE | rw [E_MH_small_0_L1, if_pos h36] at hE | rw [E_MH_small_0_L2, if_pos h36] at hE | rw [E_MH_small_0_L3, if_pos h36] at hE | rw [E_MH_small_0_L4, if_pos h36] at hE | rw [E_MH_small_0_L5, if_pos h36] at hE | rw [E_MH_small_0_L6, if_pos h36] at hE | rw [E_MH_small_0_L7, if_pos h36] at hE | rw [E_MH_small_0_L8, if_pos h36] at hE | replace hE := iteP_pos h36 hE
                    refine lv_iload hx hb dMH_small_170 (lv_at hl 0 rfl) ?_
                    refine nw_iast hx hb hK hO hU k_f (k := pf) n_f hP hD hS (by omega) (by omega) dMH_small_172 (fun s28 pl H locs es22 hO hP hD hS => ?_)
                    replace hR := bnd_step hR es22
                    first | rw [bnd_step rfl es22] at hE | replace hE := bndP_step hE es22
                    have hF := frm_sI hF es22 (by unfold M_MH_small_0; omega)
                    have hf99 : s28.1 225 23 = nI 0 := fc_ne hf89 es22 (by omega)
                    have hf100 : s28.1 225 24 = nI 4 := fc_ne hf90 es22 (by omega)
                    have hf101 : s28.1 225 25 = nI 4 := fc_ne hf91 es22 (by omega)
                    have hf102 : s28.1 225 26 = nI 2 := fc_ne hf92 es22 (by omega)
                    have hf103 : s28.1 225 27 = nI 131072 := fc_ne hf93 es22 (by omega)
                    have hf104 : s28.1 225 28 = nI 95232 := fc_ne hf94 es22 (by omega)
                    have hf105 : s28.1 225 29 = nI 78 := fc_ne hf95 es22 (by omega)
                    have hf106 : s28.1 225 30 = nI 32 := fc_ne hf96 es22 (by omega)
                    have hf107 : s28.1 172 6 = nI x36 := fc_ne hf97 es22 (by omega)
                    have hf108 : s28.1 172 5 = nI x37 := fc_ne hf98 es22 (by omega)
                    refine mi_iinc (k := 2) (x := nn21 + 1) (d := 1) (y := nn21 + 1 + 1) (lv' := [(5, .int (nI (nn21 + 1 + 1))), (8, .int z27), (7, .int (nI 1)), (6, .int (nI z21)), (0, .ref h0), (1, .ref f)]) hx hb dMH_small_173 hl rfl (by decide) rfl (by decide) rfl (fun ls hl => ?_)
                    refine mi_iinc (k := 2) (x := 1) (d := 1) (y := 2) (lv' := [(7, .int (nI 2)), (5, .int (nI (nn21 + 1 + 1))), (8, .int z27), (6, .int (nI z21)), (0, .ref h0), (1, .ref f)]) hx hb dMH_small_176 hl rfl (by decide) rfl (by decide) rfl (fun ls hl => ?_)
                    refine lv_goto (tgt := 69) hx hb dMH_small_179 (by decide) ?_
                    refine lv_iload hx hb dMH_small_69 (lv_at hl 0 rfl) ?_
                    refine lv_iconst (v := nI 2) hx hb dMH_small_71 (by decide) ?_
                    refine mi_ge (tgt := 182) hx hb dMH_small_72 (by decide) (by omega) (by omega) (fun h37 => ?_) (fun h37 => absurd h37 (by omega))
                    refine lv_goto (tgt := 49) hx hb dMH_small_182 (by decide) ?_
                    exact ih21 (nn21 + 1 + 1) s28 x36 pl ls H locs (by omega) (by omega) (by omega) hF hf99 hf100 hf101 hf102 hf103 hf104 hf105 hf106 hf107 (by have h9 := hf108; rw [show x37 = x34 by omega] at h9; exact h9) hE hR (lv_sub hl [1, 4, 5] rfl) hO hP hD hS
                  · replace hR := hR.trans (if_neg h36)
                    first | rw [if_neg h36] at hE | rw [E_MH_small_0_L0, if_neg h36] at hE | rw [E_MH_small_0_L1, if_neg h36] at hE | rw [E_MH_small_0_L2, if_neg h36] at hE | rw [E_MH_small_0_L3, if_neg h36] at hE | rw [E_MH_small_0_L4, if_neg h36] at hE | rw [E_MH_small_0_L5, if_neg h36] at hE | rw [E_MH_small_0_L6, if_neg h36] at hE | rw [E_MH_small_0_L7, if_neg h36] at hE | rw [E_MH_small_0_L8, if_neg h36] at hE | replace hE := iteP_neg h36 hE
                    refine lv_iload hx hb dMH_small_162 (lv_at hl 0 rfl) ?_
                    refine lv_ldc (v := 8380417) hx hb hown (hts _ (wg_t kw_1429)) dMH_small_164 ?_
                    refine mi_as (show (8380417 : Int32) = nI 8380417 by decide) ?_
                    refine lv_iadd hx hb dMH_small_166 ?_
                    refine lv_goto (tgt := 172) hx hb dMH_small_167 (by decide) ?_
                    refine nw_iast hx hb hK hO hU k_f (k := pf) n_f hP hD hS (by omega) (by omega) dMH_small_172 (fun s29 pl H locs es23 hO hP hD hS => ?_)
                    replace hR := bnd_step hR es23
                    first | rw [bnd_step rfl es23] at hE | replace hE := bndP_step hE es23
                    have hF := frm_sI hF es23 (by unfold M_MH_small_0; omega)
                    have hf109 : s29.1 225 23 = nI 0 := fc_ne hf89 es23 (by omega)
                    have hf110 : s29.1 225 24 = nI 4 := fc_ne hf90 es23 (by omega)
                    have hf111 : s29.1 225 25 = nI 4 := fc_ne hf91 es23 (by omega)
                    have hf112 : s29.1 225 26 = nI 2 := fc_ne hf92 es23 (by omega)
                    have hf113 : s29.1 225 27 = nI 131072 := fc_ne hf93 es23 (by omega)
                    have hf114 : s29.1 225 28 = nI 95232 := fc_ne hf94 es23 (by omega)
                    have hf115 : s29.1 225 29 = nI 78 := fc_ne hf95 es23 (by omega)
                    have hf116 : s29.1 225 30 = nI 32 := fc_ne hf96 es23 (by omega)
                    have hf117 : s29.1 172 6 = nI x36 := fc_ne hf97 es23 (by omega)
                    have hf118 : s29.1 172 5 = nI x37 := fc_ne hf98 es23 (by omega)
                    refine mi_iinc (k := 2) (x := nn21 + 1) (d := 1) (y := nn21 + 1 + 1) (lv' := [(5, .int (nI (nn21 + 1 + 1))), (8, .int z27), (7, .int (nI 1)), (6, .int (nI z21)), (0, .ref h0), (1, .ref f)]) hx hb dMH_small_173 hl rfl (by decide) rfl (by decide) rfl (fun ls hl => ?_)
                    refine mi_iinc (k := 2) (x := 1) (d := 1) (y := 2) (lv' := [(7, .int (nI 2)), (5, .int (nI (nn21 + 1 + 1))), (8, .int z27), (6, .int (nI z21)), (0, .ref h0), (1, .ref f)]) hx hb dMH_small_176 hl rfl (by decide) rfl (by decide) rfl (fun ls hl => ?_)
                    refine lv_goto (tgt := 69) hx hb dMH_small_179 (by decide) ?_
                    refine lv_iload hx hb dMH_small_69 (lv_at hl 0 rfl) ?_
                    refine lv_iconst (v := nI 2) hx hb dMH_small_71 (by decide) ?_
                    refine mi_ge (tgt := 182) hx hb dMH_small_72 (by decide) (by omega) (by omega) (fun h38 => ?_) (fun h38 => absurd h38 (by omega))
                    refine lv_goto (tgt := 49) hx hb dMH_small_182 (by decide) ?_
                    exact ih21 (nn21 + 1 + 1) s29 x36 pl ls H locs (by omega) (by omega) (by omega) hF hf109 hf110 hf111 hf112 hf113 hf114 hf115 hf116 hf117 (by have h9 := hf118; rw [show x37 = x34 by omega] at h9; exact h9) hE hR (lv_sub hl [1, 4, 5] rfl) hO hP hD hS
                · replace hR := hR.trans (if_neg (Nat.not_le.mpr h34))
                  first | rw [if_neg (Nat.not_le.mpr h34)] at hE | rw [E_MH_small_0_L0, if_neg (Nat.not_le.mpr h34)] at hE | rw [E_MH_small_0_L1, if_neg (Nat.not_le.mpr h34)] at hE | rw [E_MH_small_0_L2, if_neg (Nat.not_le.mpr h34)] at hE | rw [E_MH_small_0_L3, if_neg (Nat.not_le.mpr h34)] at hE | rw [E_MH_small_0_L4, if_neg (Nat.not_le.mpr h34)] at hE | rw [E_MH_small_0_L5, if_neg (Nat.not_le.mpr h34)] at hE | rw [E_MH_small_0_L6, if_neg (Nat.not_le.mpr h34)] at hE | rw [E_MH_small_0_L7, if_neg (Nat.not_le.mpr h34)] at hE | rw [E_MH_small_0_L8, if_neg (Nat.not_le.mpr h34)] at hE | replace hE := iteP_neg (Nat.not_le.mpr h34) hE
                  refine lv_goto (tgt := 176) hx hb dMH_small_118 (by decide) ?_
                  refine mi_iinc (k := 1) (x := 1) (d := 1) (y := 2) (lv' := [(7, .int (nI 2)), (8, .int (nI (z21 / 16))), (5, .int (nI (nn21 + 1))), (6, .int (nI z21)), (0, .ref h0), (1, .ref f)]) hx hb dMH_small_176 hl rfl (by decide) rfl (by decide) rfl (fun ls hl => ?_)
                  refine lv_goto (tgt := 69) hx hb dMH_small_179 (by decide) ?_
                  refine lv_iload hx hb dMH_small_69 (lv_at hl 0 rfl) ?_
                  refine lv_iconst (v := nI 2) hx hb dMH_small_71 (by decide) ?_
                  refine mi_ge (tgt := 182) hx hb dMH_small_72 (by decide) (by omega) (by omega) (fun h39 => ?_) (fun h39 => absurd h39 (by omega))
                  refine lv_goto (tgt := 49) hx hb dMH_small_182 (by decide) ?_
                  exact ih21 (nn21 + 1) s27 x36 pl ls H locs (by omega) (by omega) (by omega) hF hf89 hf90 hf91 hf92 hf93 hf94 hf95 hf96 hf97 (by have h9 := hf98; rw [show x37 = x34 by omega] at h9; exact h9) hE hR (lv_sub hl [2, 4, 5] rfl) hO hP hD hS
            · replace hR := hR.trans (if_neg h29)
              first | rw [if_neg h29] at hE | rw [E_MH_small_0_L0, if_neg h29] at hE | rw [E_MH_small_0_L1, if_neg h29] at hE | rw [E_MH_small_0_L2, if_neg h29] at hE | rw [E_MH_small_0_L3, if_neg h29] at hE | rw [E_MH_small_0_L4, if_neg h29] at hE | rw [E_MH_small_0_L5, if_neg h29] at hE | rw [E_MH_small_0_L6, if_neg h29] at hE | rw [E_MH_small_0_L7, if_neg h29] at hE | rw [E_MH_small_0_L8, if_neg h29] at hE | replace hE := iteP_neg h29 hE
              refine lv_iload hx hb dMH_small_162 (lv_at hl 0 rfl) ?_
              refine lv_ldc (v := 8380417) hx hb hown (hts _ (wg_t kw_1429)) dMH_small_164 ?_
              refine mi_as (show (8380417 : Int32) = nI 8380417 by decide) ?_
              refine lv_iadd hx hb dMH_small_166 ?_
              refine lv_goto (tgt := 172) hx hb dMH_small_167 (by decide) ?_
              refine nw_iast hx hb hK hO hU k_f (k := pf) n_f hP hD hS (by omega) (by omega) dMH_small_172 (fun s30 pl H locs es24 hO hP hD hS => ?_)
              replace hR := bnd_step hR es24
              first | rw [bnd_step rfl es24] at hE | replace hE := bndP_step hE es24
              have hF := frm_sI hF es24 (by unfold M_MH_small_0; omega)
              have hf119 : s30.1 225 23 = nI 0 := fc_ne hf81 es24 (by omega)
              have hf120 : s30.1 225 24 = nI 4 := fc_ne hf82 es24 (by omega)
              have hf121 : s30.1 225 25 = nI 4 := fc_ne hf83 es24 (by omega)
              have hf122 : s30.1 225 26 = nI 2 := fc_ne hf84 es24 (by omega)
              have hf123 : s30.1 225 27 = nI 131072 := fc_ne hf85 es24 (by omega)
              have hf124 : s30.1 225 28 = nI 95232 := fc_ne hf86 es24 (by omega)
              have hf125 : s30.1 225 29 = nI 78 := fc_ne hf87 es24 (by omega)
              have hf126 : s30.1 225 30 = nI 32 := fc_ne hf88 es24 (by omega)
              have hf127 : s30.1 172 6 = nI x36 := fc_ne hx_36 es24 (by omega)
              have hf128 : s30.1 172 5 = nI x37 := fc_ne hx_37 es24 (by omega)
              refine mi_iinc (k := 3) (x := nn21) (d := 1) (y := nn21 + 1) (lv' := [(5, .int (nI (nn21 + 1))), (8, .int z24), (7, .int (nI 0)), (6, .int (nI z21)), (0, .ref h0), (1, .ref f)]) hx hb dMH_small_173 hl rfl (by decide) rfl (by decide) rfl (fun ls hl => ?_)
              refine mi_iinc (k := 2) (x := 0) (d := 1) (y := 1) (lv' := [(7, .int (nI 1)), (5, .int (nI (nn21 + 1))), (8, .int z24), (6, .int (nI z21)), (0, .ref h0), (1, .ref f)]) hx hb dMH_small_176 hl rfl (by decide) rfl (by decide) rfl (fun ls hl => ?_)
              refine lv_goto (tgt := 69) hx hb dMH_small_179 (by decide) ?_
              refine lv_iload hx hb dMH_small_69 (lv_at hl 0 rfl) ?_
              refine lv_iconst (v := nI 2) hx hb dMH_small_71 (by decide) ?_
              refine mi_ge (tgt := 182) hx hb dMH_small_72 (by decide) (by omega) (by omega) (fun h40 => absurd h40 (by omega)) (fun h40 => ?_)
              refine lv_iload hx hb dMH_small_75 (lv_at hl 1 rfl) ?_
              refine lv_sipush (v := nI 256) hx hb dMH_small_77 (by decide) ?_
              refine mi_ge (tgt := 182) hx hb dMH_small_80 (by decide) (by omega) (by omega) (fun h41 => ?_) (fun h41 => ?_)
              · replace hR := hR.trans (if_pos h41)
                first | rw [if_pos h41] at hE | rw [E_MH_small_0_L0, if_pos h41] at hE | rw [E_MH_small_0_L1, if_pos h41] at hE | rw [E_MH_small_0_L2, if_pos h41] at hE | rw [E_MH_small_0_L3, if_pos h41] at hE | rw [E_MH_small_0_L4, if_pos h41] at hE | rw [E_MH_small_0_L5, if_pos h41] at hE | rw [E_MH_small_0_L6, if_pos h41] at hE | rw [E_MH_small_0_L7, if_pos h41] at hE | rw [E_MH_small_0_L8, if_pos h41] at hE | replace hE := iteP_pos h41 hE
                refine lv_goto (tgt := 49) hx hb dMH_small_182 (by decide) ?_
                exact ih21 (nn21 + 1) s30 x36 pl ls H locs (by omega) (by omega) (by omega) hF hf119 hf120 hf121 hf122 hf123 hf124 hf125 hf126 hf127 (by have h9 := hf128; rw [show x37 = x34 by omega] at h9; exact h9) hE hR (lv_sub hl [1, 4, 5] rfl) hO hP hD hS
              · replace hR := hR.trans (if_neg (Nat.not_le.mpr h41))
                first | rw [if_neg (Nat.not_le.mpr h41)] at hE | rw [E_MH_small_0_L0, if_neg (Nat.not_le.mpr h41)] at hE | rw [E_MH_small_0_L1, if_neg (Nat.not_le.mpr h41)] at hE | rw [E_MH_small_0_L2, if_neg (Nat.not_le.mpr h41)] at hE | rw [E_MH_small_0_L3, if_neg (Nat.not_le.mpr h41)] at hE | rw [E_MH_small_0_L4, if_neg (Nat.not_le.mpr h41)] at hE | rw [E_MH_small_0_L5, if_neg (Nat.not_le.mpr h41)] at hE | rw [E_MH_small_0_L6, if_neg (Nat.not_le.mpr h41)] at hE | rw [E_MH_small_0_L7, if_neg (Nat.not_le.mpr h41)] at hE | rw [E_MH_small_0_L8, if_neg (Nat.not_le.mpr h41)] at hE | replace hE := iteP_neg (Nat.not_le.mpr h41) hE
                refine lv_iload hx hb dMH_small_83 (lv_at hl 0 rfl) ?_
                refine lv_if_ne (tgt := 96) hx hb dMH_small_85 (by decide) (fun h42 => ?_) (fun h42 => absurd h42 (by decide))
                refine lv_iload hx hb dMH_small_96 (lv_at hl 3 rfl) ?_
                refine lv_bipush (v := nI 16) hx hb dMH_small_98 (by decide) ?_
                refine mi_idiv hx hb dMH_small_100 (by omega) (by omega) (by omega) ?_
                refine lv_istore (lv' := [(8, .int (nI (z21 / 16))), (7, .int (nI 1)), (5, .int (nI (nn21 + 1))), (6, .int (nI z21)), (0, .ref h0), (1, .ref f)]) hx hb dMH_small_101 hl (by decide) rfl (fun ls hl => ?_)
                refine lv_aload_n hx hb dMH_small_103 rfl (lv_at hl 4 rfl) ?_
                refine nw_get (C := "LatticeKeysModel$Hands") (TT := T_MH) (N := 31) hx hb hts (wg_ft i_MH) hown hK hO k_h0 (kn := 225) (ci := 12) (fl := [(3, 172), (3, 181), (3, 226), (3, 291), (3, 299), (3, 308), (3, 317), (3, 326), (3, 334), (3, 342), (3, 350), (3, 359), (3, 368), (3, 369), (3, 370), (3, 371), (3, 372), (3, 373), (3, 374), (3, 375), (3, 376), (3, 377), (3, 378), (0, 0), (0, 0), (0, 0), (0, 0), (0, 0), (0, 0), (0, 0), (0, 0)]) rfl hP rfl 26 (by decide) (hts _ (wg_t kw_1458)) (fun _ h9 => h9) (cd := (0, 0)) rfl dMH_small_104 (fun v31 hv31 => ?_)
                obtain rfl := (show v31 = .int (s30.1 225 26) from hv31)
                obtain ⟨z28, ez28, hz31, hz32⟩ := cl_of (b := 2147483648) hf122 (by omega) (by decide)
                replace hR := bnd_step hR ez28
                first | rw [bnd_step rfl ez28] at hE | replace hE := bndP_step hE ez28
                refine mi_as hz31 ?_
                subst hz32
                refine lv_iconst (v := nI 2) hx hb dMH_small_107 (by decide) ?_
                refine mi_ne (tgt := 121) hx hb dMH_small_108 (by decide) (by omega) (by omega) (fun h43 => absurd h43 (by omega)) (fun h43 => ?_)
                refine lv_iload hx hb dMH_small_111 (lv_at hl 0 rfl) ?_
                refine lv_bipush (v := nI 14) hx hb dMH_small_113 (by decide) ?_
                refine mi_le (tgt := 131) hx hb dMH_small_115 (by decide) (by omega) (by omega) (fun h44 => ?_) (fun h44 => ?_)
                · replace hR := hR.trans (if_pos h44)
                  first | rw [if_pos h44] at hE | rw [E_MH_small_0_L0, if_pos h44] at hE | rw [E_MH_small_0_L1, if_pos h44] at hE | rw [E_MH_small_0_L2, if_pos h44] at hE | rw [E_MH_small_0_L3, if_pos h44] at hE | rw [E_MH_small_0_L4, if_pos h44] at hE | rw [E_MH_small_0_L5, if_pos h44] at hE | rw [E_MH_small_0_L6, if_pos h44] at hE | rw [E_MH_small_0_L7, if_pos h44] at hE | rw [E_MH_small_0_L8, if_pos h44] at hE | replace hE := iteP_pos h44 hE
                  refine lv_aload_n hx hb dMH_small_131 rfl (lv_at hl 4 rfl) ?_
                  refine nw_get (C := "LatticeKeysModel$Hands") (TT := T_MH) (N := 31) hx hb hts (wg_ft i_MH) hown hK hO k_h0 (kn := 225) (ci := 12) (fl := [(3, 172), (3, 181), (3, 226), (3, 291), (3, 299), (3, 308), (3, 317), (3, 326), (3, 334), (3, 342), (3, 350), (3, 359), (3, 368), (3, 369), (3, 370), (3, 371), (3, 372), (3, 373), (3, 374), (3, 375), (3, 376), (3, 377), (3, 378), (0, 0), (0, 0), (0, 0), (0, 0), (0, 0), (0, 0), (0, 0), (0, 0)]) rfl hP rfl 26 (by decide) (hts _ (wg_t kw_1458)) (fun _ h9 => h9) (cd := (0, 0)) rfl dMH_small_132 (fun v32 hv32 => ?_)
                  obtain rfl := (show v32 = .int (s30.1 225 26) from hv32)
                  obtain ⟨z29, ez29, hz33, hz34⟩ := cl_of (b := 2147483648) hf122 (by omega) (by decide)
                  replace hR := bnd_step hR ez29
                  first | rw [bnd_step rfl ez29] at hE | replace hE := bndP_step hE ez29
                  refine mi_as hz33 ?_
                  subst hz34
                  refine lv_iconst (v := nI 2) hx hb dMH_small_135 (by decide) ?_
                  refine mi_ne (tgt := 148) hx hb dMH_small_136 (by decide) (by omega) (by omega) (fun h45 => absurd h45 (by omega)) (fun h45 => ?_)
                  refine lv_iconst (v := nI 2) hx hb dMH_small_139 (by decide) ?_
                  refine lv_iload hx hb dMH_small_140 (lv_at hl 0 rfl) ?_
                  refine lv_iconst (v := nI 5) hx hb dMH_small_142 (by decide) ?_
                  refine mi_irem hx hb dMH_small_143 (by omega) (by omega) (by omega) ?_
                  refine lv_isub hx hb dMH_small_144 ?_
                  refine lv_goto (tgt := 152) hx hb dMH_small_145 (by decide) ?_
                  refine mi_eqv (fun z30 ez30 => ?_)
                  replace hR := bnd_step hR ez30
                  first | rw [bnd_step rfl ez30] at hE | replace hE := bndP_step hE ez30
                  refine lv_istore (lv' := [(8, .int z30), (7, .int (nI 1)), (5, .int (nI (nn21 + 1))), (6, .int (nI z21)), (0, .ref h0), (1, .ref f)]) hx hb dMH_small_152 hl (by decide) rfl (fun ls hl => ?_)
                  refine lv_aload_n hx hb dMH_small_154 rfl (lv_at hl 5 rfl) ?_
                  refine lv_iload hx hb dMH_small_155 (lv_at hl 2 rfl) ?_
                  refine lv_iload hx hb dMH_small_157 (lv_at hl 0 rfl) ?_
                  refine lv_if_ge (tgt := 170) hx hb dMH_small_159 (by decide) (fun h46 => ?_) (fun h46 => ?_)
                  · replace hR := hR.trans (if_pos h46)
                    first | rw [if_pos h46] at hE | rw [E_MH_small_0_L0, if_pos h46] at hE | rw [E_MH_small_0_L1, if_pos h46] at hE | rw [E_MH_small_0_L2, if_pos h46] at hE | rw [E_MH_small_0_L3, if_pos h46] at hE | rw [E_MH_small_0_L4, if_pos h46] at hE | rw [E_MH_small_0_L5, if_pos h46] at hE | rw [E_MH_small_0_L6, if_pos h46] at hE | rw [E_MH_small_0_L7, if_pos h46] at hE | rw [E_MH_small_0_L8, if_pos h46] at hE | replace hE := iteP_pos h46 hE
                    refine lv_iload hx hb dMH_small_170 (lv_at hl 0 rfl) ?_
                    refine nw_iast hx hb hK hO hU k_f (k := pf) n_f hP hD hS (by omega) (by omega) dMH_small_172 (fun s31 pl H locs es25 hO hP hD hS => ?_)
                    replace hR := bnd_step hR es25
                    first | rw [bnd_step rfl es25] at hE | replace hE := bndP_step hE es25
                    have hF := frm_sI hF es25 (by unfold M_MH_small_0; omega)
                    have hf129 : s31.1 225 23 = nI 0 := fc_ne hf119 es25 (by omega)
                    have hf130 : s31.1 225 24 = nI 4 := fc_ne hf120 es25 (by omega)
                    have hf131 : s31.1 225 25 = nI 4 := fc_ne hf121 es25 (by omega)
                    have hf132 : s31.1 225 26 = nI 2 := fc_ne hf122 es25 (by omega)
                    have hf133 : s31.1 225 27 = nI 131072 := fc_ne hf123 es25 (by omega)
                    have hf134 : s31.1 225 28 = nI 95232 := fc_ne hf124 es25 (by omega)
                    have hf135 : s31.1 225 29 = nI 78 := fc_ne hf125 es25 (by omega)
                    have hf136 : s31.1 225 30 = nI 32 := fc_ne hf126 es25 (by omega)
                    have hf137 : s31.1 172 6 = nI x36 := fc_ne hf127 es25 (by omega)
                    have hf138 : s31.1 172 5 = nI x37 := fc_ne hf128 es25 (by omega)
                    refine mi_iinc (k := 2) (x := nn21 + 1) (d := 1) (y := nn21 + 1 + 1) (lv' := [(5, .int (nI (nn21 + 1 + 1))), (8, .int z30), (7, .int (nI 1)), (6, .int (nI z21)), (0, .ref h0), (1, .ref f)]) hx hb dMH_small_173 hl rfl (by decide) rfl (by decide) rfl (fun ls hl => ?_)
                    refine mi_iinc (k := 2) (x := 1) (d := 1) (y := 2) (lv' := [(7, .int (nI 2)), (5, .int (nI (nn21 + 1 + 1))), (8, .int z30), (6, .int (nI z21)), (0, .ref h0), (1, .ref f)]) hx hb dMH_small_176 hl rfl (by decide) rfl (by decide) rfl (fun ls hl => ?_)
                    refine lv_goto (tgt := 69) hx hb dMH_small_179 (by decide) ?_
                    refine lv_iload hx hb dMH_small_69 (lv_at hl 0 rfl) ?_
                    refine lv_iconst (v := nI 2) hx hb dMH_small_71 (by decide) ?_
                    refine mi_ge (tgt := 182) hx hb dMH_small_72 (by decide) (by omega) (by omega) (fun h47 => ?_) (fun h47 => absurd h47 (by omega))
                    refine lv_goto (tgt := 49) hx hb dMH_small_182 (by decide) ?_
                    exact ih21 (nn21 + 1 + 1) s31 x36 pl ls H locs (by omega) (by omega) (by omega) hF hf129 hf130 hf131 hf132 hf133 hf134 hf135 hf136 hf137 (by have h9 := hf138; rw [show x37 = x34 by omega] at h9; exact h9) hE hR (lv_sub hl [1, 4, 5] rfl) hO hP hD hS
                  · replace hR := hR.trans (if_neg h46)
                    first | rw [if_neg h46] at hE | rw [E_MH_small_0_L0, if_neg h46] at hE | rw [E_MH_small_0_L1, if_neg h46] at hE | rw [E_MH_small_0_L2, if_neg h46] at hE | rw [E_MH_small_0_L3, if_neg h46] at hE | rw [E_MH_small_0_L4, if_neg h46] at hE | rw [E_MH_small_0_L5, if_neg h46] at hE | rw [E_MH_small_0_L6, if_neg h46] at hE | rw [E_MH_small_0_L7, if_neg h46] at hE | rw [E_MH_small_0_L8, if_neg h46] at hE | replace hE := iteP_neg h46 hE
                    refine lv_iload hx hb dMH_small_162 (lv_at hl 0 rfl) ?_
                    refine lv_ldc (v := 8380417) hx hb hown (hts _ (wg_t kw_1429)) dMH_small_164 ?_
                    refine mi_as (show (8380417 : Int32) = nI 8380417 by decide) ?_
                    refine lv_iadd hx hb dMH_small_166 ?_
                    refine lv_goto (tgt := 172) hx hb dMH_small_167 (by decide) ?_
                    refine nw_iast hx hb hK hO hU k_f (k := pf) n_f hP hD hS (by omega) (by omega) dMH_small_172 (fun s32 pl H locs es26 hO hP hD hS => ?_)
                    replace hR := bnd_step hR es26
                    first | rw [bnd_step rfl es26] at hE | replace hE := bndP_step hE es26
                    have hF := frm_sI hF es26 (by unfold M_MH_small_0; omega)
                    have hf139 : s32.1 225 23 = nI 0 := fc_ne hf119 es26 (by omega)
                    have hf140 : s32.1 225 24 = nI 4 := fc_ne hf120 es26 (by omega)
                    have hf141 : s32.1 225 25 = nI 4 := fc_ne hf121 es26 (by omega)
                    have hf142 : s32.1 225 26 = nI 2 := fc_ne hf122 es26 (by omega)
                    have hf143 : s32.1 225 27 = nI 131072 := fc_ne hf123 es26 (by omega)
                    have hf144 : s32.1 225 28 = nI 95232 := fc_ne hf124 es26 (by omega)
                    have hf145 : s32.1 225 29 = nI 78 := fc_ne hf125 es26 (by omega)
                    have hf146 : s32.1 225 30 = nI 32 := fc_ne hf126 es26 (by omega)
                    have hf147 : s32.1 172 6 = nI x36 := fc_ne hf127 es26 (by omega)
                    have hf148 : s32.1 172 5 = nI x37 := fc_ne hf128 es26 (by omega)
                    refine mi_iinc (k := 2) (x := nn21 + 1) (d := 1) (y := nn21 + 1 + 1) (lv' := [(5, .int (nI (nn21 + 1 + 1))), (8, .int z30), (7, .int (nI 1)), (6, .int (nI z21)), (0, .ref h0), (1, .ref f)]) hx hb dMH_small_173 hl rfl (by decide) rfl (by decide) rfl (fun ls hl => ?_)
                    refine mi_iinc (k := 2) (x := 1) (d := 1) (y := 2) (lv' := [(7, .int (nI 2)), (5, .int (nI (nn21 + 1 + 1))), (8, .int z30), (6, .int (nI z21)), (0, .ref h0), (1, .ref f)]) hx hb dMH_small_176 hl rfl (by decide) rfl (by decide) rfl (fun ls hl => ?_)
                    refine lv_goto (tgt := 69) hx hb dMH_small_179 (by decide) ?_
                    refine lv_iload hx hb dMH_small_69 (lv_at hl 0 rfl) ?_
                    refine lv_iconst (v := nI 2) hx hb dMH_small_71 (by decide) ?_
                    refine mi_ge (tgt := 182) hx hb dMH_small_72 (by decide) (by omega) (by omega) (fun h48 => ?_) (fun h48 => absurd h48 (by omega))
                    refine lv_goto (tgt := 49) hx hb dMH_small_182 (by decide) ?_
                    exact ih21 (nn21 + 1 + 1) s32 x36 pl ls H locs (by omega) (by omega) (by omega) hF hf139 hf140 hf141 hf142 hf143 hf144 hf145 hf146 hf147 (by have h9 := hf148; rw [show x37 = x34 by omega] at h9; exact h9) hE hR (lv_sub hl [1, 4, 5] rfl) hO hP hD hS
                · replace hR := hR.trans (if_neg (Nat.not_le.mpr h44))
                  first | rw [if_neg (Nat.not_le.mpr h44)] at hE | rw [E_MH_small_0_L0, if_neg (Nat.not_le.mpr h44)] at hE | rw [E_MH_small_0_L1, if_neg (Nat.not_le.mpr h44)] at hE | rw [E_MH_small_0_L2, if_neg (Nat.not_le.mpr h44)] at hE | rw [E_MH_small_0_L3, if_neg (Nat.not_le.mpr h44)] at hE | rw [E_MH_small_0_L4, if_neg (Nat.not_le.mpr h44)] at hE | rw [E_MH_small_0_L5, if_neg (Nat.not_le.mpr h44)] at hE | rw [E_MH_small_0_L6, if_neg (Nat.not_le.mpr h44)] at hE | rw [E_MH_small_0_L7, if_neg (Nat.not_le.mpr h44)] at hE | rw [E_MH_small_0_L8, if_neg (Nat.not_le.mpr h44)] at hE | replace hE := iteP_neg (Nat.not_le.mpr h44) hE
                  refine lv_goto (tgt := 176) hx hb dMH_small_118 (by decide) ?_
                  refine mi_iinc (k := 1) (x := 1) (d := 1) (y := 2) (lv' := [(7, .int (nI 2)), (8, .int (nI (z21 / 16))), (5, .int (nI (nn21 + 1))), (6, .int (nI z21)), (0, .ref h0), (1, .ref f)]) hx hb dMH_small_176 hl rfl (by decide) rfl (by decide) rfl (fun ls hl => ?_)
                  refine lv_goto (tgt := 69) hx hb dMH_small_179 (by decide) ?_
                  refine lv_iload hx hb dMH_small_69 (lv_at hl 0 rfl) ?_
                  refine lv_iconst (v := nI 2) hx hb dMH_small_71 (by decide) ?_
                  refine mi_ge (tgt := 182) hx hb dMH_small_72 (by decide) (by omega) (by omega) (fun h49 => ?_) (fun h49 => absurd h49 (by omega))
                  refine lv_goto (tgt := 49) hx hb dMH_small_182 (by decide) ?_
                  exact ih21 (nn21 + 1) s30 x36 pl ls H locs (by omega) (by omega) (by omega) hF hf119 hf120 hf121 hf122 hf123 hf124 hf125 hf126 hf127 (by have h9 := hf128; rw [show x37 = x34 by omega] at h9; exact h9) hE hR (lv_sub hl [2, 4, 5] rfl) hO hP hD hS
          · replace hR := hR.trans (if_neg (Nat.not_le.mpr h27))
            first | rw [if_neg (Nat.not_le.mpr h27)] at hE | rw [E_MH_small_0_L0, if_neg (Nat.not_le.mpr h27)] at hE | rw [E_MH_small_0_L1, if_neg (Nat.not_le.mpr h27)] at hE | rw [E_MH_small_0_L2, if_neg (Nat.not_le.mpr h27)] at hE | rw [E_MH_small_0_L3, if_neg (Nat.not_le.mpr h27)] at hE | rw [E_MH_small_0_L4, if_neg (Nat.not_le.mpr h27)] at hE | rw [E_MH_small_0_L5, if_neg (Nat.not_le.mpr h27)] at hE | rw [E_MH_small_0_L6, if_neg (Nat.not_le.mpr h27)] at hE | rw [E_MH_small_0_L7, if_neg (Nat.not_le.mpr h27)] at hE | rw [E_MH_small_0_L8, if_neg (Nat.not_le.mpr h27)] at hE | replace hE := iteP_neg (Nat.not_le.mpr h27) hE
            refine lv_goto (tgt := 176) hx hb dMH_small_118 (by decide) ?_
            refine mi_iinc (k := 1) (x := 0) (d := 1) (y := 1) (lv' := [(7, .int (nI 1)), (8, .int (nI (z21 % 16))), (6, .int (nI z21)), (5, .int (nI nn21)), (0, .ref h0), (1, .ref f)]) hx hb dMH_small_176 hl rfl (by decide) rfl (by decide) rfl (fun ls hl => ?_)
            refine lv_goto (tgt := 69) hx hb dMH_small_179 (by decide) ?_
            refine lv_iload hx hb dMH_small_69 (lv_at hl 0 rfl) ?_
            refine lv_iconst (v := nI 2) hx hb dMH_small_71 (by decide) ?_
            refine mi_ge (tgt := 182) hx hb dMH_small_72 (by decide) (by omega) (by omega) (fun h50 => absurd h50 (by omega)) (fun h50 => ?_)
            refine lv_iload hx hb dMH_small_75 (lv_at hl 3 rfl) ?_
            refine lv_sipush (v := nI 256) hx hb dMH_small_77 (by decide) ?_
            refine mi_ge (tgt := 182) hx hb dMH_small_80 (by decide) (by omega) (by omega) (fun h51 => ?_) (fun h51 => ?_)
            · replace hR := hR.trans (if_pos h51)
              first | rw [if_pos h51] at hE | rw [E_MH_small_0_L0, if_pos h51] at hE | rw [E_MH_small_0_L1, if_pos h51] at hE | rw [E_MH_small_0_L2, if_pos h51] at hE | rw [E_MH_small_0_L3, if_pos h51] at hE | rw [E_MH_small_0_L4, if_pos h51] at hE | rw [E_MH_small_0_L5, if_pos h51] at hE | rw [E_MH_small_0_L6, if_pos h51] at hE | rw [E_MH_small_0_L7, if_pos h51] at hE | rw [E_MH_small_0_L8, if_pos h51] at hE | replace hE := iteP_pos h51 hE
              refine lv_goto (tgt := 49) hx hb dMH_small_182 (by decide) ?_
              exact ih21 nn21 q21.2 x36 pl ls H locs (by omega) (by omega) (by omega) hF hf81 hf82 hf83 hf84 hf85 hf86 hf87 hf88 hx_36 (by have h9 := hx_37; rw [show x37 = x34 by omega] at h9; exact h9) hE hR (lv_sub hl [3, 4, 5] rfl) hO hP hD hS
            · replace hR := hR.trans (if_neg (Nat.not_le.mpr h51))
              first | rw [if_neg (Nat.not_le.mpr h51)] at hE | rw [E_MH_small_0_L0, if_neg (Nat.not_le.mpr h51)] at hE | rw [E_MH_small_0_L1, if_neg (Nat.not_le.mpr h51)] at hE | rw [E_MH_small_0_L2, if_neg (Nat.not_le.mpr h51)] at hE | rw [E_MH_small_0_L3, if_neg (Nat.not_le.mpr h51)] at hE | rw [E_MH_small_0_L4, if_neg (Nat.not_le.mpr h51)] at hE | rw [E_MH_small_0_L5, if_neg (Nat.not_le.mpr h51)] at hE | rw [E_MH_small_0_L6, if_neg (Nat.not_le.mpr h51)] at hE | rw [E_MH_small_0_L7, if_neg (Nat.not_le.mpr h51)] at hE | rw [E_MH_small_0_L8, if_neg (Nat.not_le.mpr h51)] at hE | replace hE := iteP_neg (Nat.not_le.mpr h51) hE
              refine lv_iload hx hb dMH_small_83 (lv_at hl 0 rfl) ?_
              refine lv_if_ne (tgt := 96) hx hb dMH_small_85 (by decide) (fun h52 => ?_) (fun h52 => absurd h52 (by decide))
              refine lv_iload hx hb dMH_small_96 (lv_at hl 2 rfl) ?_
              refine lv_bipush (v := nI 16) hx hb dMH_small_98 (by decide) ?_
              refine mi_idiv hx hb dMH_small_100 (by omega) (by omega) (by omega) ?_
              refine lv_istore (lv' := [(8, .int (nI (z21 / 16))), (7, .int (nI 1)), (6, .int (nI z21)), (5, .int (nI nn21)), (0, .ref h0), (1, .ref f)]) hx hb dMH_small_101 hl (by decide) rfl (fun ls hl => ?_)
              refine lv_aload_n hx hb dMH_small_103 rfl (lv_at hl 4 rfl) ?_
              refine nw_get (C := "LatticeKeysModel$Hands") (TT := T_MH) (N := 31) hx hb hts (wg_ft i_MH) hown hK hO k_h0 (kn := 225) (ci := 12) (fl := [(3, 172), (3, 181), (3, 226), (3, 291), (3, 299), (3, 308), (3, 317), (3, 326), (3, 334), (3, 342), (3, 350), (3, 359), (3, 368), (3, 369), (3, 370), (3, 371), (3, 372), (3, 373), (3, 374), (3, 375), (3, 376), (3, 377), (3, 378), (0, 0), (0, 0), (0, 0), (0, 0), (0, 0), (0, 0), (0, 0), (0, 0)]) rfl hP rfl 26 (by decide) (hts _ (wg_t kw_1458)) (fun _ h9 => h9) (cd := (0, 0)) rfl dMH_small_104 (fun v33 hv33 => ?_)
              obtain rfl := (show v33 = .int (q21.2.1 225 26) from hv33)
              obtain ⟨z31, ez31, hz35, hz36⟩ := cl_of (b := 2147483648) hf84 (by omega) (by decide)
              replace hR := bnd_step hR ez31
              first | rw [bnd_step rfl ez31] at hE | replace hE := bndP_step hE ez31
              refine mi_as hz35 ?_
              subst hz36
              refine lv_iconst (v := nI 2) hx hb dMH_small_107 (by decide) ?_
              refine mi_ne (tgt := 121) hx hb dMH_small_108 (by decide) (by omega) (by omega) (fun h53 => absurd h53 (by omega)) (fun h53 => ?_)
              refine lv_iload hx hb dMH_small_111 (lv_at hl 0 rfl) ?_
              refine lv_bipush (v := nI 14) hx hb dMH_small_113 (by decide) ?_
              refine mi_le (tgt := 131) hx hb dMH_small_115 (by decide) (by omega) (by omega) (fun h54 => ?_) (fun h54 => ?_)
              · replace hR := hR.trans (if_pos h54)
                first | rw [if_pos h54] at hE | rw [E_MH_small_0_L0, if_pos h54] at hE | rw [E_MH_small_0_L1, if_pos h54] at hE | rw [E_MH_small_0_L2, if_pos h54] at hE | rw [E_MH_small_0_L3, if_pos h54] at hE | rw [E_MH_small_0_L4, if_pos h54] at hE | rw [E_MH_small_0_L5, if_pos h54] at hE | rw [E_MH_small_0_L6, if_pos h54] at hE | rw [E_MH_small_0_L7, if_pos h54] at hE | rw [E_MH_small_0_L8, if_pos h54] at hE | replace hE := iteP_pos h54 hE
                refine lv_aload_n hx hb dMH_small_131 rfl (lv_at hl 4 rfl) ?_
                refine nw_get (C := "LatticeKeysModel$Hands") (TT := T_MH) (N := 31) hx hb hts (wg_ft i_MH) hown hK hO k_h0 (kn := 225) (ci := 12) (fl := [(3, 172), (3, 181), (3, 226), (3, 291), (3, 299), (3, 308), (3, 317), (3, 326), (3, 334), (3, 342), (3, 350), (3, 359), (3, 368), (3, 369), (3, 370), (3, 371), (3, 372), (3, 373), (3, 374), (3, 375), (3, 376), (3, 377), (3, 378), (0, 0), (0, 0), (0, 0), (0, 0), (0, 0), (0, 0), (0, 0), (0, 0)]) rfl hP rfl 26 (by decide) (hts _ (wg_t kw_1458)) (fun _ h9 => h9) (cd := (0, 0)) rfl dMH_small_132 (fun v34 hv34 => ?_)
                obtain rfl := (show v34 = .int (q21.2.1 225 26) from hv34)
                obtain ⟨z32, ez32, hz37, hz38⟩ := cl_of (b := 2147483648) hf84 (by omega) (by decide)
                replace hR := bnd_step hR ez32
                first | rw [bnd_step rfl ez32] at hE | replace hE := bndP_step hE ez32
                refine mi_as hz37 ?_
                subst hz38
                refine lv_iconst (v := nI 2) hx hb dMH_small_135 (by decide) ?_
                refine mi_ne (tgt := 148) hx hb dMH_small_136 (by decide) (by omega) (by omega) (fun h55 => absurd h55 (by omega)) (fun h55 => ?_)
                refine lv_iconst (v := nI 2) hx hb dMH_small_139 (by decide) ?_
                refine lv_iload hx hb dMH_small_140 (lv_at hl 0 rfl) ?_
                refine lv_iconst (v := nI 5) hx hb dMH_small_142 (by decide) ?_
                refine mi_irem hx hb dMH_small_143 (by omega) (by omega) (by omega) ?_
                refine lv_isub hx hb dMH_small_144 ?_
                refine lv_goto (tgt := 152) hx hb dMH_small_145 (by decide) ?_
                refine mi_eqv (fun z33 ez33 => ?_)
                replace hR := bnd_step hR ez33
                first | rw [bnd_step rfl ez33] at hE | replace hE := bndP_step hE ez33
                refine lv_istore (lv' := [(8, .int z33), (7, .int (nI 1)), (6, .int (nI z21)), (5, .int (nI nn21)), (0, .ref h0), (1, .ref f)]) hx hb dMH_small_152 hl (by decide) rfl (fun ls hl => ?_)
                refine lv_aload_n hx hb dMH_small_154 rfl (lv_at hl 5 rfl) ?_
                refine lv_iload hx hb dMH_small_155 (lv_at hl 3 rfl) ?_
                refine lv_iload hx hb dMH_small_157 (lv_at hl 0 rfl) ?_
                refine lv_if_ge (tgt := 170) hx hb dMH_small_159 (by decide) (fun h56 => ?_) (fun h56 => ?_)
                · replace hR := hR.trans (if_pos h56)
                  first | rw [if_pos h56] at hE | rw [E_MH_small_0_L0, if_pos h56] at hE | rw [E_MH_small_0_L1, if_pos h56] at hE | rw [E_MH_small_0_L2, if_pos h56] at hE | rw [E_MH_small_0_L3, if_pos h56] at hE | rw [E_MH_small_0_L4, if_pos h56] at hE | rw [E_MH_small_0_L5, if_pos h56] at hE | rw [E_MH_small_0_L6, if_pos h56] at hE | rw [E_MH_small_0_L7, if_pos h56] at hE | rw [E_MH_small_0_L8, if_pos h56] at hE | replace hE := iteP_pos h56 hE
                  refine lv_iload hx hb dMH_small_170 (lv_at hl 0 rfl) ?_
                  refine nw_iast hx hb hK hO hU k_f (k := pf) n_f hP hD hS (by omega) (by omega) dMH_small_172 (fun s33 pl H locs es27 hO hP hD hS => ?_)
                  replace hR := bnd_step hR es27
                  first | rw [bnd_step rfl es27] at hE | replace hE := bndP_step hE es27
                  have hF := frm_sI hF es27 (by unfold M_MH_small_0; omega)
                  have hf149 : s33.1 225 23 = nI 0 := fc_ne hf81 es27 (by omega)
                  have hf150 : s33.1 225 24 = nI 4 := fc_ne hf82 es27 (by omega)
                  have hf151 : s33.1 225 25 = nI 4 := fc_ne hf83 es27 (by omega)
                  have hf152 : s33.1 225 26 = nI 2 := fc_ne hf84 es27 (by omega)
                  have hf153 : s33.1 225 27 = nI 131072 := fc_ne hf85 es27 (by omega)
                  have hf154 : s33.1 225 28 = nI 95232 := fc_ne hf86 es27 (by omega)
                  have hf155 : s33.1 225 29 = nI 78 := fc_ne hf87 es27 (by omega)
                  have hf156 : s33.1 225 30 = nI 32 := fc_ne hf88 es27 (by omega)
                  have hf157 : s33.1 172 6 = nI x36 := fc_ne hx_36 es27 (by omega)
                  have hf158 : s33.1 172 5 = nI x37 := fc_ne hx_37 es27 (by omega)
                  refine mi_iinc (k := 3) (x := nn21) (d := 1) (y := nn21 + 1) (lv' := [(5, .int (nI (nn21 + 1))), (8, .int z33), (7, .int (nI 1)), (6, .int (nI z21)), (0, .ref h0), (1, .ref f)]) hx hb dMH_small_173 hl rfl (by decide) rfl (by decide) rfl (fun ls hl => ?_)
                  refine mi_iinc (k := 2) (x := 1) (d := 1) (y := 2) (lv' := [(7, .int (nI 2)), (5, .int (nI (nn21 + 1))), (8, .int z33), (6, .int (nI z21)), (0, .ref h0), (1, .ref f)]) hx hb dMH_small_176 hl rfl (by decide) rfl (by decide) rfl (fun ls hl => ?_)
                  refine lv_goto (tgt := 69) hx hb dMH_small_179 (by decide) ?_
                  refine lv_iload hx hb dMH_small_69 (lv_at hl 0 rfl) ?_
                  refine lv_iconst (v := nI 2) hx hb dMH_small_71 (by decide) ?_
                  refine mi_ge (tgt := 182) hx hb dMH_small_72 (by decide) (by omega) (by omega) (fun h57 => ?_) (fun h57 => absurd h57 (by omega))
                  refine lv_goto (tgt := 49) hx hb dMH_small_182 (by decide) ?_
                  exact ih21 (nn21 + 1) s33 x36 pl ls H locs (by omega) (by omega) (by omega) hF hf149 hf150 hf151 hf152 hf153 hf154 hf155 hf156 hf157 (by have h9 := hf158; rw [show x37 = x34 by omega] at h9; exact h9) hE hR (lv_sub hl [1, 4, 5] rfl) hO hP hD hS
                · replace hR := hR.trans (if_neg h56)
                  first | rw [if_neg h56] at hE | rw [E_MH_small_0_L0, if_neg h56] at hE | rw [E_MH_small_0_L1, if_neg h56] at hE | rw [E_MH_small_0_L2, if_neg h56] at hE | rw [E_MH_small_0_L3, if_neg h56] at hE | rw [E_MH_small_0_L4, if_neg h56] at hE | rw [E_MH_small_0_L5, if_neg h56] at hE | rw [E_MH_small_0_L6, if_neg h56] at hE | rw [E_MH_small_0_L7, if_neg h56] at hE | rw [E_MH_small_0_L8, if_neg h56] at hE | replace hE := iteP_neg h56 hE
                  refine lv_iload hx hb dMH_small_162 (lv_at hl 0 rfl) ?_
                  refine lv_ldc (v := 8380417) hx hb hown (hts _ (wg_t kw_1429)) dMH_small_164 ?_
                  refine mi_as (show (8380417 : Int32) = nI 8380417 by decide) ?_
                  refine lv_iadd hx hb dMH_small_166 ?_
                  refine lv_goto (tgt := 172) hx hb dMH_small_167 (by decide) ?_
                  refine nw_iast hx hb hK hO hU k_f (k := pf) n_f hP hD hS (by omega) (by omega) dMH_small_172 (fun s34 pl H locs es28 hO hP hD hS => ?_)
                  replace hR := bnd_step hR es28
                  first | rw [bnd_step rfl es28] at hE | replace hE := bndP_step hE es28
                  have hF := frm_sI hF es28 (by unfold M_MH_small_0; omega)
                  have hf159 : s34.1 225 23 = nI 0 := fc_ne hf81 es28 (by omega)
                  have hf160 : s34.1 225 24 = nI 4 := fc_ne hf82 es28 (by omega)
                  have hf161 : s34.1 225 25 = nI 4 := fc_ne hf83 es28 (by omega)
                  have hf162 : s34.1 225 26 = nI 2 := fc_ne hf84 es28 (by omega)
                  have hf163 : s34.1 225 27 = nI 131072 := fc_ne hf85 es28 (by omega)
                  have hf164 : s34.1 225 28 = nI 95232 := fc_ne hf86 es28 (by omega)
                  have hf165 : s34.1 225 29 = nI 78 := fc_ne hf87 es28 (by omega)
                  have hf166 : s34.1 225 30 = nI 32 := fc_ne hf88 es28 (by omega)
                  have hf167 : s34.1 172 6 = nI x36 := fc_ne hx_36 es28 (by omega)
                  have hf168 : s34.1 172 5 = nI x37 := fc_ne hx_37 es28 (by omega)
                  refine mi_iinc (k := 3) (x := nn21) (d := 1) (y := nn21 + 1) (lv' := [(5, .int (nI (nn21 + 1))), (8, .int z33), (7, .int (nI 1)), (6, .int (nI z21)), (0, .ref h0), (1, .ref f)]) hx hb dMH_small_173 hl rfl (by decide) rfl (by decide) rfl (fun ls hl => ?_)
                  refine mi_iinc (k := 2) (x := 1) (d := 1) (y := 2) (lv' := [(7, .int (nI 2)), (5, .int (nI (nn21 + 1))), (8, .int z33), (6, .int (nI z21)), (0, .ref h0), (1, .ref f)]) hx hb dMH_small_176 hl rfl (by decide) rfl (by decide) rfl (fun ls hl => ?_)
                  refine lv_goto (tgt := 69) hx hb dMH_small_179 (by decide) ?_
                  refine lv_iload hx hb dMH_small_69 (lv_at hl 0 rfl) ?_
                  refine lv_iconst (v := nI 2) hx hb dMH_small_71 (by decide) ?_
                  refine mi_ge (tgt := 182) hx hb dMH_small_72 (by decide) (by omega) (by omega) (fun h58 => ?_) (fun h58 => absurd h58 (by omega))
                  refine lv_goto (tgt := 49) hx hb dMH_small_182 (by decide) ?_
                  exact ih21 (nn21 + 1) s34 x36 pl ls H locs (by omega) (by omega) (by omega) hF hf159 hf160 hf161 hf162 hf163 hf164 hf165 hf166 hf167 (by have h9 := hf168; rw [show x37 = x34 by omega] at h9; exact h9) hE hR (lv_sub hl [1, 4, 5] rfl) hO hP hD hS
              · replace hR := hR.trans (if_neg (Nat.not_le.mpr h54))
                first | rw [if_neg (Nat.not_le.mpr h54)] at hE | rw [E_MH_small_0_L0, if_neg (Nat.not_le.mpr h54)] at hE | rw [E_MH_small_0_L1, if_neg (Nat.not_le.mpr h54)] at hE | rw [E_MH_small_0_L2, if_neg (Nat.not_le.mpr h54)] at hE | rw [E_MH_small_0_L3, if_neg (Nat.not_le.mpr h54)] at hE | rw [E_MH_small_0_L4, if_neg (Nat.not_le.mpr h54)] at hE | rw [E_MH_small_0_L5, if_neg (Nat.not_le.mpr h54)] at hE | rw [E_MH_small_0_L6, if_neg (Nat.not_le.mpr h54)] at hE | rw [E_MH_small_0_L7, if_neg (Nat.not_le.mpr h54)] at hE | rw [E_MH_small_0_L8, if_neg (Nat.not_le.mpr h54)] at hE | replace hE := iteP_neg (Nat.not_le.mpr h54) hE
                refine lv_goto (tgt := 176) hx hb dMH_small_118 (by decide) ?_
                refine mi_iinc (k := 1) (x := 1) (d := 1) (y := 2) (lv' := [(7, .int (nI 2)), (8, .int (nI (z21 / 16))), (6, .int (nI z21)), (5, .int (nI nn21)), (0, .ref h0), (1, .ref f)]) hx hb dMH_small_176 hl rfl (by decide) rfl (by decide) rfl (fun ls hl => ?_)
                refine lv_goto (tgt := 69) hx hb dMH_small_179 (by decide) ?_
                refine lv_iload hx hb dMH_small_69 (lv_at hl 0 rfl) ?_
                refine lv_iconst (v := nI 2) hx hb dMH_small_71 (by decide) ?_
                refine mi_ge (tgt := 182) hx hb dMH_small_72 (by decide) (by omega) (by omega) (fun h59 => ?_) (fun h59 => absurd h59 (by omega))
                refine lv_goto (tgt := 49) hx hb dMH_small_182 (by decide) ?_
                exact ih21 nn21 q21.2 x36 pl ls H locs (by omega) (by omega) (by omega) hF hf81 hf82 hf83 hf84 hf85 hf86 hf87 hf88 hx_36 (by have h9 := hx_37; rw [show x37 = x34 by omega] at h9; exact h9) hE hR (lv_sub hl [3, 4, 5] rfl) hO hP hD hS
  exact lp21 fuelM 0 s25 x33 pl ls _ _ (by omega) (by omega) (by omega) hF hf53 hf54 hf55 hf56 hf57 hf58 hf59 hf60 hx_33 hx_34 hE hR (lv_sub hl [0, 1, 2] rfl) hO hP hD hS
def M_MH_small_1 (pf : Nat) (k : Nat) : Prop := k = 172 ∨ k = pf ∨ (0 : Nat) = 1
noncomputable def F_MH_small_1_L0 (pf : Nat) : Nat → Nat → Sto → Sto
  | 0, nn21, s26 => s26
  | n21 + 1, nn21, s26 => if 256 ≤ nn21 then s26 else bnd (F_MS_next  s26) fun q21 => bnd (q21.1.toNatClampNeg) fun z21 => if 256 ≤ nn21 then F_MH_small_1_L0 pf n21 nn21 q21.2 else bnd ((q21.2.1 225 26).toNatClampNeg) fun z22 => if z21 % 16 ≤ 8 then bnd ((q21.2.1 225 26).toNatClampNeg) fun z23 => bnd (((nI 4) - (nI (z21 % 16)))) fun z24 => if 0 ≤ z24 then bnd (sI q21.2 pf nn21 z24) fun s27 => if 256 ≤ nn21 + 1 then F_MH_small_1_L0 pf n21 (nn21 + 1) s27 else bnd ((s27.1 225 26).toNatClampNeg) fun z25 => if z21 / 16 ≤ 8 then bnd ((s27.1 225 26).toNatClampNeg) fun z26 => bnd (((nI 4) - (nI (z21 / 16)))) fun z27 => if 0 ≤ z27 then bnd (sI s27 pf (nn21 + 1) z27) fun s28 => F_MH_small_1_L0 pf n21 (nn21 + 1 + 1) s28 else bnd (sI s27 pf (nn21 + 1) (z27 + (nI 8380417))) fun s29 => F_MH_small_1_L0 pf n21 (nn21 + 1 + 1) s29 else F_MH_small_1_L0 pf n21 (nn21 + 1) s27 else bnd (sI q21.2 pf nn21 (z24 + (nI 8380417))) fun s30 => if 256 ≤ nn21 + 1 then F_MH_small_1_L0 pf n21 (nn21 + 1) s30 else bnd ((s30.1 225 26).toNatClampNeg) fun z28 => if z21 / 16 ≤ 8 then bnd ((s30.1 225 26).toNatClampNeg) fun z29 => bnd (((nI 4) - (nI (z21 / 16)))) fun z30 => if 0 ≤ z30 then bnd (sI s30 pf (nn21 + 1) z30) fun s31 => F_MH_small_1_L0 pf n21 (nn21 + 1 + 1) s31 else bnd (sI s30 pf (nn21 + 1) (z30 + (nI 8380417))) fun s32 => F_MH_small_1_L0 pf n21 (nn21 + 1 + 1) s32 else F_MH_small_1_L0 pf n21 (nn21 + 1) s30 else if 256 ≤ nn21 then F_MH_small_1_L0 pf n21 nn21 q21.2 else bnd ((q21.2.1 225 26).toNatClampNeg) fun z31 => if z21 / 16 ≤ 8 then bnd ((q21.2.1 225 26).toNatClampNeg) fun z32 => bnd (((nI 4) - (nI (z21 / 16)))) fun z33 => if 0 ≤ z33 then bnd (sI q21.2 pf nn21 z33) fun s33 => F_MH_small_1_L0 pf n21 (nn21 + 1) s33 else bnd (sI q21.2 pf nn21 (z33 + (nI 8380417))) fun s34 => F_MH_small_1_L0 pf n21 (nn21 + 1) s34 else F_MH_small_1_L0 pf n21 nn21 q21.2
noncomputable def E_MH_small_1_L0 (pf : Nat) : Nat → Nat → Sto → Prop
  | 0, nn21, s26 => (256 ≤ nn21) ∧ (True)
  | n21 + 1, nn21, s26 => if 256 ≤ nn21 then True else bnd (F_MS_next  s26) fun q21 => bnd (q21.1.toNatClampNeg) fun z21 => if 256 ≤ nn21 then E_MH_small_1_L0 pf n21 nn21 q21.2 else bnd ((q21.2.1 225 26).toNatClampNeg) fun z22 => if z21 % 16 ≤ 8 then bnd ((q21.2.1 225 26).toNatClampNeg) fun z23 => bnd (((nI 4) - (nI (z21 % 16)))) fun z24 => if 0 ≤ z24 then bnd (sI q21.2 pf nn21 z24) fun s27 => if 256 ≤ nn21 + 1 then E_MH_small_1_L0 pf n21 (nn21 + 1) s27 else bnd ((s27.1 225 26).toNatClampNeg) fun z25 => if z21 / 16 ≤ 8 then bnd ((s27.1 225 26).toNatClampNeg) fun z26 => bnd (((nI 4) - (nI (z21 / 16)))) fun z27 => if 0 ≤ z27 then bnd (sI s27 pf (nn21 + 1) z27) fun s28 => E_MH_small_1_L0 pf n21 (nn21 + 1 + 1) s28 else bnd (sI s27 pf (nn21 + 1) (z27 + (nI 8380417))) fun s29 => E_MH_small_1_L0 pf n21 (nn21 + 1 + 1) s29 else E_MH_small_1_L0 pf n21 (nn21 + 1) s27 else bnd (sI q21.2 pf nn21 (z24 + (nI 8380417))) fun s30 => if 256 ≤ nn21 + 1 then E_MH_small_1_L0 pf n21 (nn21 + 1) s30 else bnd ((s30.1 225 26).toNatClampNeg) fun z28 => if z21 / 16 ≤ 8 then bnd ((s30.1 225 26).toNatClampNeg) fun z29 => bnd (((nI 4) - (nI (z21 / 16)))) fun z30 => if 0 ≤ z30 then bnd (sI s30 pf (nn21 + 1) z30) fun s31 => E_MH_small_1_L0 pf n21 (nn21 + 1 + 1) s31 else bnd (sI s30 pf (nn21 + 1) (z30 + (nI 8380417))) fun s32 => E_MH_small_1_L0 pf n21 (nn21 + 1 + 1) s32 else E_MH_small_1_L0 pf n21 (nn21 + 1) s30 else if 256 ≤ nn21 then E_MH_small_1_L0 pf n21 nn21 q21.2 else bnd ((q21.2.1 225 26).toNatClampNeg) fun z31 => if z21 / 16 ≤ 8 then bnd ((q21.2.1 225 26).toNatClampNeg) fun z32 => bnd (((nI 4) - (nI (z21 / 16)))) fun z33 => if 0 ≤ z33 then bnd (sI q21.2 pf nn21 z33) fun s33 => E_MH_small_1_L0 pf n21 (nn21 + 1) s33 else bnd (sI q21.2 pf nn21 (z33 + (nI 8380417))) fun s34 => E_MH_small_1_L0 pf n21 (nn21 + 1) s34 else E_MH_small_1_L0 pf n21 nn21 q21.2
noncomputable def F_MH_small_1 (pf : Nat) (pb : Nat) (n : Nat) (at_ : Nat) (wh : Int32) (s : Sto) : Sto := bnd (F_MS_shake  s) fun s21 => bnd (F_MS_puts pb n at_ 64 s21) fun s22 => bnd (F_MS_put wh s22) fun s23 => bnd (F_MS_put (wh >>> ((nI 8) &&& 31)) s23) fun s24 => bnd (F_MS_end  s24) fun s25 => F_MH_small_1_L0 pf fuelM 0 s25
noncomputable def E_MH_small_1 (pf : Nat) (pb : Nat) (n : Nat) (at_ : Nat) (wh : Int32) (s : Sto) : Prop := bnd (F_MS_shake  s) fun s21 => bnd (F_MS_puts pb n at_ 64 s21) fun s22 => bnd (F_MS_put wh s22) fun s23 => bnd (F_MS_put (wh >>> ((nI 8) &&& 31)) s23) fun s24 => bnd (F_MS_end  s24) fun s25 => E_MH_small_1_L0 pf fuelM 0 s25
set_option maxHeartbeats 8000000 in
set_option maxRecDepth 100000 in
theorem N_MH_small_1 (l : Launch) (g : Gd) (sz : Nat) (T : TyN) (s : Sto) (pl : va_W) (hO : okn g T s pl) (hU : inj T) (h0 f b : Nat) (pf : Nat) (pb : Nat) (n : Nat) (at_ : Nat) (wh : Int32) (k_h0 : T h0 = some 225) (k_f : T f = some pf) (n_f : nsp pf = (0, 256, [])) (k_b : T b = some pb) (n_b : nsp pb = (1, n, [])) (e_c0 : s.1 225 23 = nI 1) (e_c1 : s.1 225 24 = nI 6) (e_c2 : s.1 225 25 = nI 5) (e_c3 : s.1 225 26 = nI 4) (e_c4 : s.1 225 27 = nI 524288) (e_c5 : s.1 225 28 = nI 261888) (e_c6 : s.1 225 29 = nI 196) (e_c7 : s.1 225 30 = nI 48) (h1 : at_ + 64 ≤ n) (h2 : n < 65536) (hE : E_MH_small_1 pf pb n at_ wh s)  : Met l y_MH_small w_MH_small ({ frames := 4, cells := 0, slots := 0, locals := 90 } : Room) (va_Pc [.ref h0, .ref f, .ref b, .int (nI at_), .int wh] (pr (en g) g.1 vcl sz ([] ++ pl))) (va_Qv (fun (u : (Sto) × va_W) => (u.1 = F_MH_small_1 pf pb n at_ wh s ∧ frm (M_MH_small_1 pf) s u.1 ∧ True) ∧ okn g T u.1 u.2) (po g.1 vcl (va_A ([] ++ pl) sz) (fun (u : (Sto) × va_W) => [] ++ u.2)) (va_A ([] ++ pl) sz)) 0 0 (va_A ([] ++ pl) sz) := by
  refine mc_entry (cc := c_MH_small) (maxL := 9) (ret := none) (by decide) rfl (Nat.le_of_ble_eq_true rfl) ?_
  intro p e s0 m args below meth c ls F hr hlk hnm hsz hP hD hEn hA hl
  obtain ⟨hx, hb, hml, hown, hts⟩ := id F
  have hK := hEn.1
  generalize va_A ([] ++ pl) sz = A at hD hEn hA ⊢
  have hS : va_S A s0.heap s0.heap [] := va_S.rf
  have hl : lv_has ls 9 [(0, .ref h0), (1, .ref f), (2, .ref b), (3, .int (nI at_)), (4, .int wh)] := hl
  have hR : F_MH_small_1 pf pb n at_ wh s = F_MH_small_1 pf pb n at_ wh s := rfl
  have hF : frm (M_MH_small_1 pf) s s := frm_rf
  have ne_172_pf : 172 ≠ pf := nsp_ne (p := 172) rfl n_f (show (5 : Nat) ≠ 0 by decide)
  have ne_172_pb : 172 ≠ pb := nsp_ne (p := 172) rfl n_b (show (5 : Nat) ≠ 1 by decide)
  have ne_225_pf : 225 ≠ pf := nsp_ne (p := 225) rfl n_f (show (5 : Nat) ≠ 0 by decide)
  have ne_225_pb : 225 ≠ pb := nsp_ne (p := 225) rfl n_b (show (5 : Nat) ≠ 1 by decide)
  refine lv_aload_n hx hb dMH_small_0 rfl (lv_at hl 0 rfl) ?_
  refine nw_get (C := "LatticeKeysModel$Hands") (TT := T_MH) (N := 31) hx hb hts (wg_ft i_MH) hown hK hO k_h0 (kn := 225) (ci := 12) (fl := [(3, 172), (3, 181), (3, 226), (3, 291), (3, 299), (3, 308), (3, 317), (3, 326), (3, 334), (3, 342), (3, 350), (3, 359), (3, 368), (3, 369), (3, 370), (3, 371), (3, 372), (3, 373), (3, 374), (3, 375), (3, 376), (3, 377), (3, 378), (0, 0), (0, 0), (0, 0), (0, 0), (0, 0), (0, 0), (0, 0), (0, 0)]) rfl hP rfl 0 (by decide) (hts _ (wg_t kw_1432)) (fun _ h9 => h9) (cd := (3, 172)) rfl dMH_small_1 (fun v21 hv21 => ?_)
  obtain ⟨r21, rfl, kr21⟩ := (show ∃ r : Nat, v21 = .ref r ∧ T r = some 172 from hv21)
  refine mp_v (cx := []) (wr := []) hP hD hS hA [] [] rfl rfl rfl (by decide) (va_runV (As := []) (rest := []) F (N_MS_shake l g _ T s pl hO hU r21 kr21) (cwV 0 hts (wg_app (wg_c kw_1718 (wg_c kw_1661 (wg_c kw_1662 (wg_c kw_10 wg_n)))) kw_1663) rfl rfl rfl (by decide +kernel) ⟨by decide, by decide⟩) (pn_W "LatticeKeysModel$Sponge" (en_ok g) (ci := 9) (kn := 172) (fl := [(3, 173), (3, 174), (3, 175), (3, 176), (3, 177), (0, 0), (0, 0), (0, 0)]) hK hO kr21 rfl hP hD hS hA hEn [] rfl rfl rfl) rfl rfl hl.1 rfl (lv_room (Nat.le_of_ble_eq_true rfl)) dMH_small_4 ⟨by omega, by omega⟩) (fun  u21 H locs hu21 hP hD hS => ?_)
  obtain ⟨s21, pl⟩ := u21
  obtain ⟨⟨eq21, hFc21, ⟨x21, hx_21, hb_21⟩, ⟨x22, hx_22, hb_22⟩, -⟩, hO⟩ := hu21
  have hO : okn g T s21 pl := hO
  have hP : va_P g.1 vcl ([] ++ pl) _ := hP
  have hD : va_D _ ([] ++ pl) := hD
  have hFc21 : frm (M_MS_shake) s s21 := hFc21
  have hb_21 : x21 = 0 := hb_21
  have hb_22 : x22 = 136 := hb_22
  replace hR := bnd_step hR eq21
  first | rw [bnd_step rfl eq21] at hE | replace hE := bndP_step hE eq21
  have hF := frm_tr hF hFc21 (fun k hk => by unfold M_MS_shake at hk; unfold M_MH_small_1; omega)
  have hf21 : s21.1 225 23 = nI 1 := fc_F e_c0 hFc21 (by unfold M_MS_shake; omega)
  have hf22 : s21.1 225 24 = nI 6 := fc_F e_c1 hFc21 (by unfold M_MS_shake; omega)
  have hf23 : s21.1 225 25 = nI 5 := fc_F e_c2 hFc21 (by unfold M_MS_shake; omega)
  have hf24 : s21.1 225 26 = nI 4 := fc_F e_c3 hFc21 (by unfold M_MS_shake; omega)
  have hf25 : s21.1 225 27 = nI 524288 := fc_F e_c4 hFc21 (by unfold M_MS_shake; omega)
  have hf26 : s21.1 225 28 = nI 261888 := fc_F e_c5 hFc21 (by unfold M_MS_shake; omega)
  have hf27 : s21.1 225 29 = nI 196 := fc_F e_c6 hFc21 (by unfold M_MS_shake; omega)
  have hf28 : s21.1 225 30 = nI 48 := fc_F e_c7 hFc21 (by unfold M_MS_shake; omega)
  refine W.widen (k := 0) (n := 0) (by omega) (by omega) ?_
  refine lv_aload_n hx hb dMH_small_7 rfl (lv_at hl 0 rfl) ?_
  refine nw_get (C := "LatticeKeysModel$Hands") (TT := T_MH) (N := 31) hx hb hts (wg_ft i_MH) hown hK hO k_h0 (kn := 225) (ci := 12) (fl := [(3, 172), (3, 181), (3, 226), (3, 291), (3, 299), (3, 308), (3, 317), (3, 326), (3, 334), (3, 342), (3, 350), (3, 359), (3, 368), (3, 369), (3, 370), (3, 371), (3, 372), (3, 373), (3, 374), (3, 375), (3, 376), (3, 377), (3, 378), (0, 0), (0, 0), (0, 0), (0, 0), (0, 0), (0, 0), (0, 0), (0, 0)]) rfl hP rfl 0 (by decide) (hts _ (wg_t kw_1432)) (fun _ h9 => h9) (cd := (3, 172)) rfl dMH_small_8 (fun v22 hv22 => ?_)
  obtain ⟨r22, rfl, kr22⟩ := (show ∃ r : Nat, v22 = .ref r ∧ T r = some 172 from hv22)
  refine lv_aload_n hx hb dMH_small_11 rfl (lv_at hl 2 rfl) ?_
  refine lv_iload_n hx hb dMH_small_12 rfl (lv_at hl 3 rfl) ?_
  refine lv_bipush (v := nI 64) hx hb dMH_small_13 (by decide) ?_
  refine mp_v (cx := []) (wr := []) hP hD hS hA [] [] rfl rfl rfl (by decide) (va_runV (As := [.ref b, .int (nI at_), .int (nI 64)]) (rest := []) F (N_MS_puts l g _ T s21 pl hO hU r22 b pb n at_ 64 x21 x22 kr22 k_b n_b hx_21 hx_22 (by omega) (by omega) (by omega) (by omega)) (cwV 3 hts (wg_app (wg_c kw_1719 (wg_c kw_1612 (wg_c kw_1613 (wg_c kw_10 wg_n)))) kw_1614) rfl rfl rfl (by decide +kernel) ⟨by decide, by decide⟩) (pn_W "LatticeKeysModel$Sponge" (en_ok g) (ci := 9) (kn := 172) (fl := [(3, 173), (3, 174), (3, 175), (3, 176), (3, 177), (0, 0), (0, 0), (0, 0)]) hK hO kr22 rfl hP hD hS hA hEn [] rfl rfl rfl) rfl rfl hl.1 rfl (lv_room (Nat.le_of_ble_eq_true rfl)) dMH_small_15 ⟨by omega, by omega⟩) (fun  u22 H locs hu22 hP hD hS => ?_)
  obtain ⟨s22, pl⟩ := u22
  obtain ⟨⟨eq22, hFc22, ⟨x24, hx_24, hb_24⟩, ⟨x25, hx_25, hb_25⟩, -⟩, hO⟩ := hu22
  have hO : okn g T s22 pl := hO
  have hP : va_P g.1 vcl ([] ++ pl) _ := hP
  have hD : va_D _ ([] ++ pl) := hD
  have hFc22 : frm (M_MS_puts) s21 s22 := hFc22
  have hb_24 : x24 < x22 := hb_24
  have hb_25 : x25 = x22 := hb_25
  replace hR := bnd_step hR eq22
  first | rw [bnd_step rfl eq22] at hE | replace hE := bndP_step hE eq22
  have hF := frm_tr hF hFc22 (fun k hk => by unfold M_MS_puts at hk; unfold M_MH_small_1; omega)
  have hf29 : s22.1 225 23 = nI 1 := fc_F hf21 hFc22 (by unfold M_MS_puts; omega)
  have hf30 : s22.1 225 24 = nI 6 := fc_F hf22 hFc22 (by unfold M_MS_puts; omega)
  have hf31 : s22.1 225 25 = nI 5 := fc_F hf23 hFc22 (by unfold M_MS_puts; omega)
  have hf32 : s22.1 225 26 = nI 4 := fc_F hf24 hFc22 (by unfold M_MS_puts; omega)
  have hf33 : s22.1 225 27 = nI 524288 := fc_F hf25 hFc22 (by unfold M_MS_puts; omega)
  have hf34 : s22.1 225 28 = nI 261888 := fc_F hf26 hFc22 (by unfold M_MS_puts; omega)
  have hf35 : s22.1 225 29 = nI 196 := fc_F hf27 hFc22 (by unfold M_MS_puts; omega)
  have hf36 : s22.1 225 30 = nI 48 := fc_F hf28 hFc22 (by unfold M_MS_puts; omega)
  refine W.widen (k := 0) (n := 0) (by omega) (by omega) ?_
  refine lv_aload_n hx hb dMH_small_18 rfl (lv_at hl 0 rfl) ?_
  refine nw_get (C := "LatticeKeysModel$Hands") (TT := T_MH) (N := 31) hx hb hts (wg_ft i_MH) hown hK hO k_h0 (kn := 225) (ci := 12) (fl := [(3, 172), (3, 181), (3, 226), (3, 291), (3, 299), (3, 308), (3, 317), (3, 326), (3, 334), (3, 342), (3, 350), (3, 359), (3, 368), (3, 369), (3, 370), (3, 371), (3, 372), (3, 373), (3, 374), (3, 375), (3, 376), (3, 377), (3, 378), (0, 0), (0, 0), (0, 0), (0, 0), (0, 0), (0, 0), (0, 0), (0, 0)]) rfl hP rfl 0 (by decide) (hts _ (wg_t kw_1432)) (fun _ h9 => h9) (cd := (3, 172)) rfl dMH_small_19 (fun v23 hv23 => ?_)
  obtain ⟨r23, rfl, kr23⟩ := (show ∃ r : Nat, v23 = .ref r ∧ T r = some 172 from hv23)
  refine lv_iload hx hb dMH_small_22 (lv_at hl 4 rfl) ?_
  refine mp_v (cx := []) (wr := []) hP hD hS hA [] [] rfl rfl rfl (by decide) (va_runV (As := [.int wh]) (rest := []) F (N_MS_put l g _ T s22 pl hO hU r23 wh x24 x25 kr23 hx_24 hx_25 (by omega) (by omega)) (cwV 1 hts (wg_app (wg_c kw_1720 (wg_c kw_1616 (wg_c kw_1617 (wg_c kw_10 wg_n)))) kw_1618) rfl rfl rfl (by decide +kernel) ⟨by decide, by decide⟩) (pn_W "LatticeKeysModel$Sponge" (en_ok g) (ci := 9) (kn := 172) (fl := [(3, 173), (3, 174), (3, 175), (3, 176), (3, 177), (0, 0), (0, 0), (0, 0)]) hK hO kr23 rfl hP hD hS hA hEn [] rfl rfl rfl) rfl rfl hl.1 rfl (lv_room (Nat.le_of_ble_eq_true rfl)) dMH_small_24 ⟨by omega, by omega⟩) (fun  u23 H locs hu23 hP hD hS => ?_)
  obtain ⟨s23, pl⟩ := u23
  obtain ⟨⟨eq23, hFc23, ⟨x27, hx_27, hb_27⟩, ⟨x28, hx_28, hb_28⟩, -⟩, hO⟩ := hu23
  have hO : okn g T s23 pl := hO
  have hP : va_P g.1 vcl ([] ++ pl) _ := hP
  have hD : va_D _ ([] ++ pl) := hD
  have hFc23 : frm (M_MS_put) s22 s23 := hFc23
  have hb_27 : x27 < x25 := hb_27
  have hb_28 : x28 = x25 := hb_28
  replace hR := bnd_step hR eq23
  first | rw [bnd_step rfl eq23] at hE | replace hE := bndP_step hE eq23
  have hF := frm_tr hF hFc23 (fun k hk => by unfold M_MS_put at hk; unfold M_MH_small_1; omega)
  have hf37 : s23.1 225 23 = nI 1 := fc_F hf29 hFc23 (by unfold M_MS_put; omega)
  have hf38 : s23.1 225 24 = nI 6 := fc_F hf30 hFc23 (by unfold M_MS_put; omega)
  have hf39 : s23.1 225 25 = nI 5 := fc_F hf31 hFc23 (by unfold M_MS_put; omega)
  have hf40 : s23.1 225 26 = nI 4 := fc_F hf32 hFc23 (by unfold M_MS_put; omega)
  have hf41 : s23.1 225 27 = nI 524288 := fc_F hf33 hFc23 (by unfold M_MS_put; omega)
  have hf42 : s23.1 225 28 = nI 261888 := fc_F hf34 hFc23 (by unfold M_MS_put; omega)
  have hf43 : s23.1 225 29 = nI 196 := fc_F hf35 hFc23 (by unfold M_MS_put; omega)
  have hf44 : s23.1 225 30 = nI 48 := fc_F hf36 hFc23 (by unfold M_MS_put; omega)
  refine W.widen (k := 0) (n := 0) (by omega) (by omega) ?_
  refine lv_aload_n hx hb dMH_small_27 rfl (lv_at hl 0 rfl) ?_
  refine nw_get (C := "LatticeKeysModel$Hands") (TT := T_MH) (N := 31) hx hb hts (wg_ft i_MH) hown hK hO k_h0 (kn := 225) (ci := 12) (fl := [(3, 172), (3, 181), (3, 226), (3, 291), (3, 299), (3, 308), (3, 317), (3, 326), (3, 334), (3, 342), (3, 350), (3, 359), (3, 368), (3, 369), (3, 370), (3, 371), (3, 372), (3, 373), (3, 374), (3, 375), (3, 376), (3, 377), (3, 378), (0, 0), (0, 0), (0, 0), (0, 0), (0, 0), (0, 0), (0, 0), (0, 0)]) rfl hP rfl 0 (by decide) (hts _ (wg_t kw_1432)) (fun _ h9 => h9) (cd := (3, 172)) rfl dMH_small_28 (fun v24 hv24 => ?_)
  obtain ⟨r24, rfl, kr24⟩ := (show ∃ r : Nat, v24 = .ref r ∧ T r = some 172 from hv24)
  refine lv_iload hx hb dMH_small_31 (lv_at hl 4 rfl) ?_
  refine lv_bipush (v := nI 8) hx hb dMH_small_33 (by decide) ?_
  refine lv_ishr hx hb dMH_small_35 ?_
  refine mp_v (cx := []) (wr := []) hP hD hS hA [] [] rfl rfl rfl (by decide) (va_runV (As := [.int ((wh >>> ((nI 8) &&& 31)))]) (rest := []) F (N_MS_put l g _ T s23 pl hO hU r24 (wh >>> ((nI 8) &&& 31)) x27 x28 kr24 hx_27 hx_28 (by omega) (by omega)) (cwV 1 hts (wg_app (wg_c kw_1720 (wg_c kw_1616 (wg_c kw_1617 (wg_c kw_10 wg_n)))) kw_1618) rfl rfl rfl (by decide +kernel) ⟨by decide, by decide⟩) (pn_W "LatticeKeysModel$Sponge" (en_ok g) (ci := 9) (kn := 172) (fl := [(3, 173), (3, 174), (3, 175), (3, 176), (3, 177), (0, 0), (0, 0), (0, 0)]) hK hO kr24 rfl hP hD hS hA hEn [] rfl rfl rfl) rfl rfl hl.1 rfl (lv_room (Nat.le_of_ble_eq_true rfl)) dMH_small_36 ⟨by omega, by omega⟩) (fun  u24 H locs hu24 hP hD hS => ?_)
  obtain ⟨s24, pl⟩ := u24
  obtain ⟨⟨eq24, hFc24, ⟨x30, hx_30, hb_30⟩, ⟨x31, hx_31, hb_31⟩, -⟩, hO⟩ := hu24
  have hO : okn g T s24 pl := hO
  have hP : va_P g.1 vcl ([] ++ pl) _ := hP
  have hD : va_D _ ([] ++ pl) := hD
  have hFc24 : frm (M_MS_put) s23 s24 := hFc24
  have hb_30 : x30 < x28 := hb_30
  have hb_31 : x31 = x28 := hb_31
  replace hR := bnd_step hR eq24
  first | rw [bnd_step rfl eq24] at hE | replace hE := bndP_step hE eq24
  have hF := frm_tr hF hFc24 (fun k hk => by unfold M_MS_put at hk; unfold M_MH_small_1; omega)
  have hf45 : s24.1 225 23 = nI 1 := fc_F hf37 hFc24 (by unfold M_MS_put; omega)
  have hf46 : s24.1 225 24 = nI 6 := fc_F hf38 hFc24 (by unfold M_MS_put; omega)
  have hf47 : s24.1 225 25 = nI 5 := fc_F hf39 hFc24 (by unfold M_MS_put; omega)
  have hf48 : s24.1 225 26 = nI 4 := fc_F hf40 hFc24 (by unfold M_MS_put; omega)
  have hf49 : s24.1 225 27 = nI 524288 := fc_F hf41 hFc24 (by unfold M_MS_put; omega)
  have hf50 : s24.1 225 28 = nI 261888 := fc_F hf42 hFc24 (by unfold M_MS_put; omega)
  have hf51 : s24.1 225 29 = nI 196 := fc_F hf43 hFc24 (by unfold M_MS_put; omega)
  have hf52 : s24.1 225 30 = nI 48 := fc_F hf44 hFc24 (by unfold M_MS_put; omega)
  refine W.widen (k := 0) (n := 0) (by omega) (by omega) ?_
  refine lv_aload_n hx hb dMH_small_39 rfl (lv_at hl 0 rfl) ?_
  refine nw_get (C := "LatticeKeysModel$Hands") (TT := T_MH) (N := 31) hx hb hts (wg_ft i_MH) hown hK hO k_h0 (kn := 225) (ci := 12) (fl := [(3, 172), (3, 181), (3, 226), (3, 291), (3, 299), (3, 308), (3, 317), (3, 326), (3, 334), (3, 342), (3, 350), (3, 359), (3, 368), (3, 369), (3, 370), (3, 371), (3, 372), (3, 373), (3, 374), (3, 375), (3, 376), (3, 377), (3, 378), (0, 0), (0, 0), (0, 0), (0, 0), (0, 0), (0, 0), (0, 0), (0, 0)]) rfl hP rfl 0 (by decide) (hts _ (wg_t kw_1432)) (fun _ h9 => h9) (cd := (3, 172)) rfl dMH_small_40 (fun v25 hv25 => ?_)
  obtain ⟨r25, rfl, kr25⟩ := (show ∃ r : Nat, v25 = .ref r ∧ T r = some 172 from hv25)
  refine mp_v (cx := []) (wr := []) hP hD hS hA [] [] rfl rfl rfl (by decide) (va_runV (As := []) (rest := []) F (N_MS_end l g _ T s24 pl hO hU r25 x30 x31 kr25 hx_30 hx_31 (by omega) (by omega)) (cwV 0 hts (wg_app (wg_c kw_1721 (wg_c kw_1634 (wg_c kw_1635 (wg_c kw_10 wg_n)))) kw_1636) rfl rfl rfl (by decide +kernel) ⟨by decide, by decide⟩) (pn_W "LatticeKeysModel$Sponge" (en_ok g) (ci := 9) (kn := 172) (fl := [(3, 173), (3, 174), (3, 175), (3, 176), (3, 177), (0, 0), (0, 0), (0, 0)]) hK hO kr25 rfl hP hD hS hA hEn [] rfl rfl rfl) rfl rfl hl.1 rfl (lv_room (Nat.le_of_ble_eq_true rfl)) dMH_small_43 ⟨by omega, by omega⟩) (fun  u25 H locs hu25 hP hD hS => ?_)
  obtain ⟨s25, pl⟩ := u25
  obtain ⟨⟨eq25, hFc25, ⟨x33, hx_33, hb_33⟩, ⟨x34, hx_34, hb_34⟩, -⟩, hO⟩ := hu25
  have hO : okn g T s25 pl := hO
  have hP : va_P g.1 vcl ([] ++ pl) _ := hP
  have hD : va_D _ ([] ++ pl) := hD
  have hFc25 : frm (M_MS_end) s24 s25 := hFc25
  have hb_33 : x33 = 0 := hb_33
  have hb_34 : x34 = x31 := hb_34
  replace hR := bnd_step hR eq25
  first | rw [bnd_step rfl eq25] at hE | replace hE := bndP_step hE eq25
  have hF := frm_tr hF hFc25 (fun k hk => by unfold M_MS_end at hk; unfold M_MH_small_1; omega)
  have hf53 : s25.1 225 23 = nI 1 := fc_F hf45 hFc25 (by unfold M_MS_end; omega)
  have hf54 : s25.1 225 24 = nI 6 := fc_F hf46 hFc25 (by unfold M_MS_end; omega)
  have hf55 : s25.1 225 25 = nI 5 := fc_F hf47 hFc25 (by unfold M_MS_end; omega)
  have hf56 : s25.1 225 26 = nI 4 := fc_F hf48 hFc25 (by unfold M_MS_end; omega)
  have hf57 : s25.1 225 27 = nI 524288 := fc_F hf49 hFc25 (by unfold M_MS_end; omega)
  have hf58 : s25.1 225 28 = nI 261888 := fc_F hf50 hFc25 (by unfold M_MS_end; omega)
  have hf59 : s25.1 225 29 = nI 196 := fc_F hf51 hFc25 (by unfold M_MS_end; omega)
  have hf60 : s25.1 225 30 = nI 48 := fc_F hf52 hFc25 (by unfold M_MS_end; omega)
  refine W.widen (k := 0) (n := 0) (by omega) (by omega) ?_
  refine lv_iconst (v := nI 0) hx hb dMH_small_46 (by decide) ?_
  refine lv_istore (lv' := [(5, .int (nI 0)), (0, .ref h0), (1, .ref f), (2, .ref b), (3, .int (nI at_)), (4, .int wh)]) hx hb dMH_small_47 hl (by decide) rfl (fun ls hl => ?_)
  have lp21 : ∀ (n21 : Nat) (nn21 : Nat) (s26 : Sto) (ps21 : Nat) (pl : va_W) (ls : Array Slot) (H : Heap) (locs : List Loc), 0 = 0 → (nn21 ≤ 256) → (ps21 ≤ 136) → frm (M_MH_small_1 pf) s s26 → s26.1 225 23 = nI 1 → s26.1 225 24 = nI 6 → s26.1 225 25 = nI 5 → s26.1 225 26 = nI 4 → s26.1 225 27 = nI 524288 → s26.1 225 28 = nI 261888 → s26.1 225 29 = nI 196 → s26.1 225 30 = nI 48 → s26.1 172 6 = nI ps21 → s26.1 172 5 = nI x34 → E_MH_small_1_L0 pf n21 nn21 s26 → F_MH_small_1 pf pb n at_ wh s = F_MH_small_1_L0 pf n21 nn21 s26 → lv_has ls 9 [(5, .int (nI nn21)), (0, .ref h0), (1, .ref f)] → okn g T s26 pl → va_P g.1 vcl ([] ++ pl) H → va_D A ([] ++ pl) → va_S A s0.heap H locs → W p l e ({ frames := 4, cells := 0, slots := 0, locals := 90 } : Room) s0 m args below meth c H locs 0 0 (MQ below (va_Qv (fun (u : (Sto) × va_W) => (u.1 = F_MH_small_1 pf pb n at_ wh s ∧ frm (M_MH_small_1 pf) s u.1 ∧ True) ∧ okn g T u.1 u.2) (po g.1 vcl A (fun (u : (Sto) × va_W) => [] ++ u.2)) A) args s0 0 0 A) (F0 m 49 ls []) := by
    intro n21
    induction n21 with
    | zero =>
      intro nn21 s26 ps21 pl ls H locs hm21 hi21 hi22 hF hf61 hf62 hf63 hf64 hf65 hf66 hf67 hf68 hf69 hf70 hE hR hl hO hP hD hS
      refine lv_iload hx hb dMH_small_49 (lv_at hl 0 rfl) ?_
      refine lv_sipush (v := nI 256) hx hb dMH_small_51 (by decide) ?_
      refine mi_ge (tgt := 185) hx hb dMH_small_54 (by decide) (by omega) (by omega) (fun h21 => ?_) (fun h21 => absurd h21 (by have h9 : 256 ≤ nn21 := hE.1; omega))
      replace hE := hE.2
      exact mp_vret hx hb hr hlk hP hD hS (s26, pl) ⟨⟨hR.symm, hF, trivial⟩, hO⟩ [] rfl rfl rfl (by omega) (by omega) dMH_small_185
    | succ n21 ih21 =>
      intro nn21 s26 ps21 pl ls H locs hm21 hi21 hi22 hF hf71 hf72 hf73 hf74 hf75 hf76 hf77 hf78 hf79 hf80 hE hR hl hO hP hD hS
      refine lv_iload hx hb dMH_small_49 (lv_at hl 0 rfl) ?_
      refine lv_sipush (v := nI 256) hx hb dMH_small_51 (by decide) ?_
      refine mi_ge (tgt := 185) hx hb dMH_small_54 (by decide) (by omega) (by omega) (fun h22 => ?_) (fun h22 => ?_)
      · replace hR := hR.trans (if_pos h22)
        first | rw [if_pos h22] at hE | rw [E_MH_small_1_L0, if_pos h22] at hE | rw [E_MH_small_1_L1, if_pos h22] at hE | rw [E_MH_small_1_L2, if_pos h22] at hE | rw [E_MH_small_1_L3, if_pos h22] at hE | rw [E_MH_small_1_L4, if_pos h22] at hE | rw [E_MH_small_1_L5, if_pos h22] at hE | rw [E_MH_small_1_L6, if_pos h22] at hE | rw [E_MH_small_1_L7, if_pos h22] at hE | rw [E_MH_small_1_L8, if_pos h22] at hE | replace hE := iteP_pos h22 hE
        exact mp_vret hx hb hr hlk hP hD hS (s26, pl) ⟨⟨hR.symm, hF, trivial⟩, hO⟩ [] rfl rfl rfl (by omega) (by omega) dMH_small_185
      · replace hR := hR.trans (if_neg (Nat.not_le.mpr h22))
        first | rw [if_neg (Nat.not_le.mpr h22)] at hE | rw [E_MH_small_1_L0, if_neg (Nat.not_le.mpr h22)] at hE | rw [E_MH_small_1_L1, if_neg (Nat.not_le.mpr h22)] at hE | rw [E_MH_small_1_L2, if_neg (Nat.not_le.mpr h22)] at hE | rw [E_MH_small_1_L3, if_neg (Nat.not_le.mpr h22)] at hE | rw [E_MH_small_1_L4, if_neg (Nat.not_le.mpr h22)] at hE | rw [E_MH_small_1_L5, if_neg (Nat.not_le.mpr h22)] at hE | rw [E_MH_small_1_L6, if_neg (Nat.not_le.mpr h22)] at hE | rw [E_MH_small_1_L7, if_neg (Nat.not_le.mpr h22)] at hE | rw [E_MH_small_1_L8, if_neg (Nat.not_le.mpr h22)] at hE | replace hE := iteP_neg (Nat.not_le.mpr h22) hE
        refine lv_aload_n hx hb dMH_small_57 rfl (lv_at hl 1 rfl) ?_
        refine nw_get (C := "LatticeKeysModel$Hands") (TT := T_MH) (N := 31) hx hb hts (wg_ft i_MH) hown hK hO k_h0 (kn := 225) (ci := 12) (fl := [(3, 172), (3, 181), (3, 226), (3, 291), (3, 299), (3, 308), (3, 317), (3, 326), (3, 334), (3, 342), (3, 350), (3, 359), (3, 368), (3, 369), (3, 370), (3, 371), (3, 372), (3, 373), (3, 374), (3, 375), (3, 376), (3, 377), (3, 378), (0, 0), (0, 0), (0, 0), (0, 0), (0, 0), (0, 0), (0, 0), (0, 0)]) rfl hP rfl 0 (by decide) (hts _ (wg_t kw_1432)) (fun _ h9 => h9) (cd := (3, 172)) rfl dMH_small_58 (fun v26 hv26 => ?_)
        obtain ⟨r26, rfl, kr26⟩ := (show ∃ r : Nat, v26 = .ref r ∧ T r = some 172 from hv26)
        refine mp_i (cx := []) (wr := []) hP hD hS hA [] [] rfl rfl rfl (by decide) (va_runV (As := []) (rest := []) F (N_MS_next l g _ T s26 pl hO hU r26 ps21 x34 kr26 hf79 hf80 (by omega) (by omega)) (cwV 0 hts (wg_app (wg_c kw_1728 (wg_c kw_1642 (wg_c kw_1643 (wg_c kw_10 wg_n)))) kw_1644) rfl rfl rfl (by decide +kernel) ⟨by decide, by decide⟩) (pn_W "LatticeKeysModel$Sponge" (en_ok g) (ci := 9) (kn := 172) (fl := [(3, 173), (3, 174), (3, 175), (3, 176), (3, 177), (0, 0), (0, 0), (0, 0)]) hK hO kr26 rfl hP hD hS hA hEn [] rfl rfl rfl) rfl rfl hl.1 rfl (lv_room (Nat.le_of_ble_eq_true rfl)) dMH_small_61 ⟨by omega, by omega⟩) (fun r27 u26 H locs hu26 hP hD hS => ?_)
        obtain ⟨q21, pl⟩ := u26
        obtain ⟨⟨eq26, rfl, hFc26, ⟨x38, hx_38, hb_38⟩, ⟨x36, hx_36, hb_36⟩, ⟨x37, hx_37, hb_37⟩, -⟩, hO⟩ := hu26
        have hO : okn g T q21.2 pl := hO
        have hP : va_P g.1 vcl ([] ++ pl) _ := hP
        have hD : va_D _ ([] ++ pl) := hD
        have hFc26 : frm (M_MS_next) s26 q21.2 := hFc26
        have hb_36 : x36 ≤ x34 := hb_36
        have hb_37 : x37 = x34 := hb_37
        have hb_38 : x38 < 256 := hb_38
        replace hR := bnd_step hR eq26
        first | rw [bnd_step rfl eq26] at hE | replace hE := bndP_step hE eq26
        have hF := frm_tr hF hFc26 (fun k hk => by unfold M_MS_next at hk; unfold M_MH_small_1; omega)
        have hf81 : q21.2.1 225 23 = nI 1 := fc_F hf71 hFc26 (by unfold M_MS_next; omega)
        have hf82 : q21.2.1 225 24 = nI 6 := fc_F hf72 hFc26 (by unfold M_MS_next; omega)
        have hf83 : q21.2.1 225 25 = nI 5 := fc_F hf73 hFc26 (by unfold M_MS_next; omega)
        have hf84 : q21.2.1 225 26 = nI 4 := fc_F hf74 hFc26 (by unfold M_MS_next; omega)
        have hf85 : q21.2.1 225 27 = nI 524288 := fc_F hf75 hFc26 (by unfold M_MS_next; omega)
        have hf86 : q21.2.1 225 28 = nI 261888 := fc_F hf76 hFc26 (by unfold M_MS_next; omega)
        have hf87 : q21.2.1 225 29 = nI 196 := fc_F hf77 hFc26 (by unfold M_MS_next; omega)
        have hf88 : q21.2.1 225 30 = nI 48 := fc_F hf78 hFc26 (by unfold M_MS_next; omega)
        obtain ⟨z21, ez21, hz21, hz22⟩ := cl_of (b := 2147483648) hx_38 (by omega) (by decide)
        replace hR := bnd_step hR ez21
        first | rw [bnd_step rfl ez21] at hE | replace hE := bndP_step hE ez21
        refine mi_as hz21 ?_
        refine W.widen (k := 0) (n := 0) (by omega) (by omega) ?_
        refine lv_istore (lv' := [(6, .int (nI z21)), (5, .int (nI nn21)), (0, .ref h0), (1, .ref f)]) hx hb dMH_small_64 hl (by decide) rfl (fun ls hl => ?_)
        refine lv_iconst (v := nI 0) hx hb dMH_small_66 (by decide) ?_
        refine lv_istore (lv' := [(7, .int (nI 0)), (6, .int (nI z21)), (5, .int (nI nn21)), (0, .ref h0), (1, .ref f)]) hx hb dMH_small_67 hl (by decide) rfl (fun ls hl => ?_)
        refine lv_iload hx hb dMH_small_69 (lv_at hl 0 rfl) ?_
        refine lv_iconst (v := nI 2) hx hb dMH_small_71 (by decide) ?_
        refine mi_ge (tgt := 182) hx hb dMH_small_72 (by decide) (by omega) (by omega) (fun h23 => absurd h23 (by omega)) (fun h23 => ?_)
        refine lv_iload hx hb dMH_small_75 (lv_at hl 2 rfl) ?_
        refine lv_sipush (v := nI 256) hx hb dMH_small_77 (by decide) ?_
        refine mi_ge (tgt := 182) hx hb dMH_small_80 (by decide) (by omega) (by omega) (fun h24 => ?_) (fun h24 => ?_)
        · replace hR := hR.trans (if_pos h24)
          first | rw [if_pos h24] at hE | rw [E_MH_small_1_L0, if_pos h24] at hE | rw [E_MH_small_1_L1, if_pos h24] at hE | rw [E_MH_small_1_L2, if_pos h24] at hE | rw [E_MH_small_1_L3, if_pos h24] at hE | rw [E_MH_small_1_L4, if_pos h24] at hE | rw [E_MH_small_1_L5, if_pos h24] at hE | rw [E_MH_small_1_L6, if_pos h24] at hE | rw [E_MH_small_1_L7, if_pos h24] at hE | rw [E_MH_small_1_L8, if_pos h24] at hE | replace hE := iteP_pos h24 hE
          refine lv_goto (tgt := 49) hx hb dMH_small_182 (by decide) ?_
          exact ih21 nn21 q21.2 x36 pl ls H locs (by omega) (by omega) (by omega) hF hf81 hf82 hf83 hf84 hf85 hf86 hf87 hf88 hx_36 (by have h9 := hx_37; rw [show x37 = x34 by omega] at h9; exact h9) hE hR (lv_sub hl [2, 3, 4] rfl) hO hP hD hS
        · replace hR := hR.trans (if_neg (Nat.not_le.mpr h24))
          first | rw [if_neg (Nat.not_le.mpr h24)] at hE | rw [E_MH_small_1_L0, if_neg (Nat.not_le.mpr h24)] at hE | rw [E_MH_small_1_L1, if_neg (Nat.not_le.mpr h24)] at hE | rw [E_MH_small_1_L2, if_neg (Nat.not_le.mpr h24)] at hE | rw [E_MH_small_1_L3, if_neg (Nat.not_le.mpr h24)] at hE | rw [E_MH_small_1_L4, if_neg (Nat.not_le.mpr h24)] at hE | rw [E_MH_small_1_L5, if_neg (Nat.not_le.mpr h24)] at hE | rw [E_MH_small_1_L6, if_neg (Nat.not_le.mpr h24)] at hE | rw [E_MH_small_1_L7, if_neg (Nat.not_le.mpr h24)] at hE | rw [E_MH_small_1_L8, if_neg (Nat.not_le.mpr h24)] at hE | replace hE := iteP_neg (Nat.not_le.mpr h24) hE
          refine lv_iload hx hb dMH_small_83 (lv_at hl 0 rfl) ?_
          refine lv_if_ne (tgt := 96) hx hb dMH_small_85 (by decide) (fun h25 => absurd h25 (by decide)) (fun h25 => ?_)
          refine lv_iload hx hb dMH_small_88 (lv_at hl 1 rfl) ?_
          refine lv_bipush (v := nI 16) hx hb dMH_small_90 (by decide) ?_
          refine mi_irem hx hb dMH_small_92 (by omega) (by omega) (by omega) ?_
          refine lv_goto (tgt := 101) hx hb dMH_small_93 (by decide) ?_
          refine lv_istore (lv' := [(8, .int (nI (z21 % 16))), (7, .int (nI 0)), (6, .int (nI z21)), (5, .int (nI nn21)), (0, .ref h0), (1, .ref f)]) hx hb dMH_small_101 hl (by decide) rfl (fun ls hl => ?_)
          refine lv_aload_n hx hb dMH_small_103 rfl (lv_at hl 4 rfl) ?_
          refine nw_get (C := "LatticeKeysModel$Hands") (TT := T_MH) (N := 31) hx hb hts (wg_ft i_MH) hown hK hO k_h0 (kn := 225) (ci := 12) (fl := [(3, 172), (3, 181), (3, 226), (3, 291), (3, 299), (3, 308), (3, 317), (3, 326), (3, 334), (3, 342), (3, 350), (3, 359), (3, 368), (3, 369), (3, 370), (3, 371), (3, 372), (3, 373), (3, 374), (3, 375), (3, 376), (3, 377), (3, 378), (0, 0), (0, 0), (0, 0), (0, 0), (0, 0), (0, 0), (0, 0), (0, 0)]) rfl hP rfl 26 (by decide) (hts _ (wg_t kw_1458)) (fun _ h9 => h9) (cd := (0, 0)) rfl dMH_small_104 (fun v27 hv27 => ?_)
          obtain rfl := (show v27 = .int (q21.2.1 225 26) from hv27)
          obtain ⟨z22, ez22, hz23, hz24⟩ := cl_of (b := 2147483648) hf84 (by omega) (by decide)
          replace hR := bnd_step hR ez22
          first | rw [bnd_step rfl ez22] at hE | replace hE := bndP_step hE ez22
          refine mi_as hz23 ?_
          subst hz24
          refine lv_iconst (v := nI 2) hx hb dMH_small_107 (by decide) ?_
          refine mi_ne (tgt := 121) hx hb dMH_small_108 (by decide) (by omega) (by omega) (fun h26 => ?_) (fun h26 => absurd h26 (by omega))
          refine lv_iload hx hb dMH_small_121 (lv_at hl 0 rfl) ?_
          refine lv_bipush (v := nI 8) hx hb dMH_small_123 (by decide) ?_
          refine mi_le (tgt := 131) hx hb dMH_small_125 (by decide) (by omega) (by omega) (fun h27 => ?_) (fun h27 => ?_)
          · replace hR := hR.trans (if_pos h27)
            first | rw [if_pos h27] at hE | rw [E_MH_small_1_L0, if_pos h27] at hE | rw [E_MH_small_1_L1, if_pos h27] at hE | rw [E_MH_small_1_L2, if_pos h27] at hE | rw [E_MH_small_1_L3, if_pos h27] at hE | rw [E_MH_small_1_L4, if_pos h27] at hE | rw [E_MH_small_1_L5, if_pos h27] at hE | rw [E_MH_small_1_L6, if_pos h27] at hE | rw [E_MH_small_1_L7, if_pos h27] at hE | rw [E_MH_small_1_L8, if_pos h27] at hE | replace hE := iteP_pos h27 hE
            refine lv_aload_n hx hb dMH_small_131 rfl (lv_at hl 4 rfl) ?_
            refine nw_get (C := "LatticeKeysModel$Hands") (TT := T_MH) (N := 31) hx hb hts (wg_ft i_MH) hown hK hO k_h0 (kn := 225) (ci := 12) (fl := [(3, 172), (3, 181), (3, 226), (3, 291), (3, 299), (3, 308), (3, 317), (3, 326), (3, 334), (3, 342), (3, 350), (3, 359), (3, 368), (3, 369), (3, 370), (3, 371), (3, 372), (3, 373), (3, 374), (3, 375), (3, 376), (3, 377), (3, 378), (0, 0), (0, 0), (0, 0), (0, 0), (0, 0), (0, 0), (0, 0), (0, 0)]) rfl hP rfl 26 (by decide) (hts _ (wg_t kw_1458)) (fun _ h9 => h9) (cd := (0, 0)) rfl dMH_small_132 (fun v28 hv28 => ?_)
            obtain rfl := (show v28 = .int (q21.2.1 225 26) from hv28)
            obtain ⟨z23, ez23, hz25, hz26⟩ := cl_of (b := 2147483648) hf84 (by omega) (by decide)
            replace hR := bnd_step hR ez23
            first | rw [bnd_step rfl ez23] at hE | replace hE := bndP_step hE ez23
            refine mi_as hz25 ?_
            subst hz26
            refine lv_iconst (v := nI 2) hx hb dMH_small_135 (by decide) ?_
            refine mi_ne (tgt := 148) hx hb dMH_small_136 (by decide) (by omega) (by omega) (fun h28 => ?_) (fun h28 => absurd h28 (by omega))
            refine lv_iconst (v := nI 4) hx hb dMH_small_148 (by decide) ?_
            refine lv_iload hx hb dMH_small_149 (lv_at hl 0 rfl) ?_
            refine lv_isub hx hb dMH_small_151 ?_
            refine mi_eqv (fun z24 ez24 => ?_)
            replace hR := bnd_step hR ez24
            first | rw [bnd_step rfl ez24] at hE | replace hE := bndP_step hE ez24
            refine lv_istore (lv' := [(8, .int z24), (7, .int (nI 0)), (6, .int (nI z21)), (5, .int (nI nn21)), (0, .ref h0), (1, .ref f)]) hx hb dMH_small_152 hl (by decide) rfl (fun ls hl => ?_)
            refine lv_aload_n hx hb dMH_small_154 rfl (lv_at hl 5 rfl) ?_
            refine lv_iload hx hb dMH_small_155 (lv_at hl 3 rfl) ?_
            refine lv_iload hx hb dMH_small_157 (lv_at hl 0 rfl) ?_
            refine lv_if_ge (tgt := 170) hx hb dMH_small_159 (by decide) (fun h29 => ?_) (fun h29 => ?_)
            · replace hR := hR.trans (if_pos h29)
              first | rw [if_pos h29] at hE | rw [E_MH_small_1_L0, if_pos h29] at hE | rw [E_MH_small_1_L1, if_pos h29] at hE | rw [E_MH_small_1_L2, if_pos h29] at hE | rw [E_MH_small_1_L3, if_pos h29] at hE | rw [E_MH_small_1_L4, if_pos h29] at hE | rw [E_MH_small_1_L5, if_pos h29] at hE | rw [E_MH_small_1_L6, if_pos h29] at hE | rw [E_MH_small_1_L7, if_pos h29] at hE | rw [E_MH_small_1_L8, if_pos h29] at hE | replace hE := iteP_pos h29 hE
              refine lv_iload hx hb dMH_small_170 (lv_at hl 0 rfl) ?_
              refine nw_iast hx hb hK hO hU k_f (k := pf) n_f hP hD hS (by omega) (by omega) dMH_small_172 (fun s27 pl H locs es21 hO hP hD hS => ?_)
              replace hR := bnd_step hR es21
              first | rw [bnd_step rfl es21] at hE | replace hE := bndP_step hE es21
              have hF := frm_sI hF es21 (by unfold M_MH_small_1; omega)
              have hf89 : s27.1 225 23 = nI 1 := fc_ne hf81 es21 (by omega)
              have hf90 : s27.1 225 24 = nI 6 := fc_ne hf82 es21 (by omega)
              have hf91 : s27.1 225 25 = nI 5 := fc_ne hf83 es21 (by omega)
              have hf92 : s27.1 225 26 = nI 4 := fc_ne hf84 es21 (by omega)
              have hf93 : s27.1 225 27 = nI 524288 := fc_ne hf85 es21 (by omega)
              have hf94 : s27.1 225 28 = nI 261888 := fc_ne hf86 es21 (by omega)
              have hf95 : s27.1 225 29 = nI 196 := fc_ne hf87 es21 (by omega)
              have hf96 : s27.1 225 30 = nI 48 := fc_ne hf88 es21 (by omega)
              have hf97 : s27.1 172 6 = nI x36 := fc_ne hx_36 es21 (by omega)
              have hf98 : s27.1 172 5 = nI x37 := fc_ne hx_37 es21 (by omega)
              refine mi_iinc (k := 3) (x := nn21) (d := 1) (y := nn21 + 1) (lv' := [(5, .int (nI (nn21 + 1))), (8, .int z24), (7, .int (nI 0)), (6, .int (nI z21)), (0, .ref h0), (1, .ref f)]) hx hb dMH_small_173 hl rfl (by decide) rfl (by decide) rfl (fun ls hl => ?_)
              refine mi_iinc (k := 2) (x := 0) (d := 1) (y := 1) (lv' := [(7, .int (nI 1)), (5, .int (nI (nn21 + 1))), (8, .int z24), (6, .int (nI z21)), (0, .ref h0), (1, .ref f)]) hx hb dMH_small_176 hl rfl (by decide) rfl (by decide) rfl (fun ls hl => ?_)
              refine lv_goto (tgt := 69) hx hb dMH_small_179 (by decide) ?_
              refine lv_iload hx hb dMH_small_69 (lv_at hl 0 rfl) ?_
              refine lv_iconst (v := nI 2) hx hb dMH_small_71 (by decide) ?_
              refine mi_ge (tgt := 182) hx hb dMH_small_72 (by decide) (by omega) (by omega) (fun h30 => absurd h30 (by omega)) (fun h30 => ?_)
              refine lv_iload hx hb dMH_small_75 (lv_at hl 1 rfl) ?_
              refine lv_sipush (v := nI 256) hx hb dMH_small_77 (by decide) ?_
              refine mi_ge (tgt := 182) hx hb dMH_small_80 (by decide) (by omega) (by omega) (fun h31 => ?_) (fun h31 => ?_)
              · replace hR := hR.trans (if_pos h31)
                first | rw [if_pos h31] at hE | rw [E_MH_small_1_L0, if_pos h31] at hE | rw [E_MH_small_1_L1, if_pos h31] at hE | rw [E_MH_small_1_L2, if_pos h31] at hE | rw [E_MH_small_1_L3, if_pos h31] at hE | rw [E_MH_small_1_L4, if_pos h31] at hE | rw [E_MH_small_1_L5, if_pos h31] at hE | rw [E_MH_small_1_L6, if_pos h31] at hE | rw [E_MH_small_1_L7, if_pos h31] at hE | rw [E_MH_small_1_L8, if_pos h31] at hE | replace hE := iteP_pos h31 hE
                refine lv_goto (tgt := 49) hx hb dMH_small_182 (by decide) ?_
                exact ih21 (nn21 + 1) s27 x36 pl ls H locs (by omega) (by omega) (by omega) hF hf89 hf90 hf91 hf92 hf93 hf94 hf95 hf96 hf97 (by have h9 := hf98; rw [show x37 = x34 by omega] at h9; exact h9) hE hR (lv_sub hl [1, 4, 5] rfl) hO hP hD hS
              · replace hR := hR.trans (if_neg (Nat.not_le.mpr h31))
                first | rw [if_neg (Nat.not_le.mpr h31)] at hE | rw [E_MH_small_1_L0, if_neg (Nat.not_le.mpr h31)] at hE | rw [E_MH_small_1_L1, if_neg (Nat.not_le.mpr h31)] at hE | rw [E_MH_small_1_L2, if_neg (Nat.not_le.mpr h31)] at hE | rw [E_MH_small_1_L3, if_neg (Nat.not_le.mpr h31)] at hE | rw [E_MH_small_1_L4, if_neg (Nat.not_le.mpr h31)] at hE | rw [E_MH_small_1_L5, if_neg (Nat.not_le.mpr h31)] at hE | rw [E_MH_small_1_L6, if_neg (Nat.not_le.mpr h31)] at hE | rw [E_MH_small_1_L7, if_neg (Nat.not_le.mpr h31)] at hE | rw [E_MH_small_1_L8, if_neg (Nat.not_le.mpr h31)] at hE | replace hE := iteP_neg (Nat.not_le.mpr h31) hE
                refine lv_iload hx hb dMH_small_83 (lv_at hl 0 rfl) ?_
                refine lv_if_ne (tgt := 96) hx hb dMH_small_85 (by decide) (fun h32 => ?_) (fun h32 => absurd h32 (by decide))
                refine lv_iload hx hb dMH_small_96 (lv_at hl 3 rfl) ?_
                refine lv_bipush (v := nI 16) hx hb dMH_small_98 (by decide) ?_
                refine mi_idiv hx hb dMH_small_100 (by omega) (by omega) (by omega) ?_
                refine lv_istore (lv' := [(8, .int (nI (z21 / 16))), (7, .int (nI 1)), (5, .int (nI (nn21 + 1))), (6, .int (nI z21)), (0, .ref h0), (1, .ref f)]) hx hb dMH_small_101 hl (by decide) rfl (fun ls hl => ?_)
                refine lv_aload_n hx hb dMH_small_103 rfl (lv_at hl 4 rfl) ?_
                refine nw_get (C := "LatticeKeysModel$Hands") (TT := T_MH) (N := 31) hx hb hts (wg_ft i_MH) hown hK hO k_h0 (kn := 225) (ci := 12) (fl := [(3, 172), (3, 181), (3, 226), (3, 291), (3, 299), (3, 308), (3, 317), (3, 326), (3, 334), (3, 342), (3, 350), (3, 359), (3, 368), (3, 369), (3, 370), (3, 371), (3, 372), (3, 373), (3, 374), (3, 375), (3, 376), (3, 377), (3, 378), (0, 0), (0, 0), (0, 0), (0, 0), (0, 0), (0, 0), (0, 0), (0, 0)]) rfl hP rfl 26 (by decide) (hts _ (wg_t kw_1458)) (fun _ h9 => h9) (cd := (0, 0)) rfl dMH_small_104 (fun v29 hv29 => ?_)
                obtain rfl := (show v29 = .int (s27.1 225 26) from hv29)
                obtain ⟨z25, ez25, hz27, hz28⟩ := cl_of (b := 2147483648) hf92 (by omega) (by decide)
                replace hR := bnd_step hR ez25
                first | rw [bnd_step rfl ez25] at hE | replace hE := bndP_step hE ez25
                refine mi_as hz27 ?_
                subst hz28
                refine lv_iconst (v := nI 2) hx hb dMH_small_107 (by decide) ?_
                refine mi_ne (tgt := 121) hx hb dMH_small_108 (by decide) (by omega) (by omega) (fun h33 => ?_) (fun h33 => absurd h33 (by omega))
                refine lv_iload hx hb dMH_small_121 (lv_at hl 0 rfl) ?_
                refine lv_bipush (v := nI 8) hx hb dMH_small_123 (by decide) ?_
                refine mi_le (tgt := 131) hx hb dMH_small_125 (by decide) (by omega) (by omega) (fun h34 => ?_) (fun h34 => ?_)
                · replace hR := hR.trans (if_pos h34)
                  first | rw [if_pos h34] at hE | rw [E_MH_small_1_L0, if_pos h34] at hE | rw [E_MH_small_1_L1, if_pos h34] at hE | rw [E_MH_small_1_L2, if_pos h34] at hE | rw [E_MH_small_1_L3, if_pos h34] at hE | rw [E_MH_small_1_L4, if_pos h34] at hE | rw [E_MH_small_1_L5, if_pos h34] at hE | rw [E_MH_small_1_L6, if_pos h34] at hE | rw [E_MH_small_1_L7, if_pos h34] at hE | rw [E_MH_small_1_L8, if_pos h34] at hE | replace hE := iteP_pos h34 hE
                  refine lv_aload_n hx hb dMH_small_131 rfl (lv_at hl 4 rfl) ?_
                  refine nw_get (C := "LatticeKeysModel$Hands") (TT := T_MH) (N := 31) hx hb hts (wg_ft i_MH) hown hK hO k_h0 (kn := 225) (ci := 12) (fl := [(3, 172), (3, 181), (3, 226), (3, 291), (3, 299), (3, 308), (3, 317), (3, 326), (3, 334), (3, 342), (3, 350), (3, 359), (3, 368), (3, 369), (3, 370), (3, 371), (3, 372), (3, 373), (3, 374), (3, 375), (3, 376), (3, 377), (3, 378), (0, 0), (0, 0), (0, 0), (0, 0), (0, 0), (0, 0), (0, 0), (0, 0)]) rfl hP rfl 26 (by decide) (hts _ (wg_t kw_1458)) (fun _ h9 => h9) (cd := (0, 0)) rfl dMH_small_132 (fun v30 hv30 => ?_)
                  obtain rfl := (show v30 = .int (s27.1 225 26) from hv30)
                  obtain ⟨z26, ez26, hz29, hz30⟩ := cl_of (b := 2147483648) hf92 (by omega) (by decide)
                  replace hR := bnd_step hR ez26
                  first | rw [bnd_step rfl ez26] at hE | replace hE := bndP_step hE ez26
                  refine mi_as hz29 ?_
                  subst hz30
                  refine lv_iconst (v := nI 2) hx hb dMH_small_135 (by decide) ?_
                  refine mi_ne (tgt := 148) hx hb dMH_small_136 (by decide) (by omega) (by omega) (fun h35 => ?_) (fun h35 => absurd h35 (by omega))
                  refine lv_iconst (v := nI 4) hx hb dMH_small_148 (by decide) ?_
                  refine lv_iload hx hb dMH_small_149 (lv_at hl 0 rfl) ?_
                  refine lv_isub hx hb dMH_small_151 ?_
                  refine mi_eqv (fun z27 ez27 => ?_)
                  replace hR := bnd_step hR ez27
                  first | rw [bnd_step rfl ez27] at hE | replace hE := bndP_step hE ez27
                  refine lv_istore (lv' := [(8, .int z27), (7, .int (nI 1)), (5, .int (nI (nn21 + 1))), (6, .int (nI z21)), (0, .ref h0), (1, .ref f)]) hx hb dMH_small_152 hl (by decide) rfl (fun ls hl => ?_)
                  refine lv_aload_n hx hb dMH_small_154 rfl (lv_at hl 5 rfl) ?_
                  refine lv_iload hx hb dMH_small_155 (lv_at hl 2 rfl) ?_
                  refine lv_iload hx hb dMH_small_157 (lv_at hl 0 rfl) ?_
                  refine lv_if_ge (tgt := 170) hx hb dMH_small_159 (by decide) (fun h36 => ?_) (fun h36 => ?_)
                  · replace hR := hR.trans (if_pos h36)
                    first | rw [if_pos h36] at hE | rw [E_MH_small_1_L0, if_pos h36] at hE | rw [E_MH_small_1_L1, if_pos h36] at hE | rw [E_MH_small_1_L2, if_pos h36] at hE | rw [E_MH_small_1_L3, if_pos h36] at hE | rw [E_MH_small_1_L4, if_pos h36] at hE | rw [E_MH_small_1_L5, if_pos h36] at hE | rw [E_MH_small_1_L6, if_pos h36] at hE | rw [E_MH_small_1_L7, if_pos h36] at hE | rw [E_MH_small_1_L8, if_pos h36] at hE | replace hE := iteP_pos h36 hE
                    refine lv_iload hx hb dMH_small_170 (lv_at hl 0 rfl) ?_
                    refine nw_iast hx hb hK hO hU k_f (k := pf) n_f hP hD hS (by omega) (by omega) dMH_small_172 (fun s28 pl H locs es22 hO hP hD hS => ?_)
                    replace hR := bnd_step hR es22
                    first | rw [bnd_step rfl es22] at hE | replace hE := bndP_step hE es22
                    have hF := frm_sI hF es22 (by unfold M_MH_small_1; omega)
                    have hf99 : s28.1 225 23 = nI 1 := fc_ne hf89 es22 (by omega)
                    have hf100 : s28.1 225 24 = nI 6 := fc_ne hf90 es22 (by omega)
                    have hf101 : s28.1 225 25 = nI 5 := fc_ne hf91 es22 (by omega)
                    have hf102 : s28.1 225 26 = nI 4 := fc_ne hf92 es22 (by omega)
                    have hf103 : s28.1 225 27 = nI 524288 := fc_ne hf93 es22 (by omega)
                    have hf104 : s28.1 225 28 = nI 261888 := fc_ne hf94 es22 (by omega)
                    have hf105 : s28.1 225 29 = nI 196 := fc_ne hf95 es22 (by omega)
                    have hf106 : s28.1 225 30 = nI 48 := fc_ne hf96 es22 (by omega)
                    have hf107 : s28.1 172 6 = nI x36 := fc_ne hf97 es22 (by omega)
                    have hf108 : s28.1 172 5 = nI x37 := fc_ne hf98 es22 (by omega)
                    refine mi_iinc (k := 2) (x := nn21 + 1) (d := 1) (y := nn21 + 1 + 1) (lv' := [(5, .int (nI (nn21 + 1 + 1))), (8, .int z27), (7, .int (nI 1)), (6, .int (nI z21)), (0, .ref h0), (1, .ref f)]) hx hb dMH_small_173 hl rfl (by decide) rfl (by decide) rfl (fun ls hl => ?_)
                    refine mi_iinc (k := 2) (x := 1) (d := 1) (y := 2) (lv' := [(7, .int (nI 2)), (5, .int (nI (nn21 + 1 + 1))), (8, .int z27), (6, .int (nI z21)), (0, .ref h0), (1, .ref f)]) hx hb dMH_small_176 hl rfl (by decide) rfl (by decide) rfl (fun ls hl => ?_)
                    refine lv_goto (tgt := 69) hx hb dMH_small_179 (by decide) ?_
                    refine lv_iload hx hb dMH_small_69 (lv_at hl 0 rfl) ?_
                    refine lv_iconst (v := nI 2) hx hb dMH_small_71 (by decide) ?_
                    refine mi_ge (tgt := 182) hx hb dMH_small_72 (by decide) (by omega) (by omega) (fun h37 => ?_) (fun h37 => absurd h37 (by omega))
                    refine lv_goto (tgt := 49) hx hb dMH_small_182 (by decide) ?_
                    exact ih21 (nn21 + 1 + 1) s28 x36 pl ls H locs (by omega) (by omega) (by omega) hF hf99 hf100 hf101 hf102 hf103 hf104 hf105 hf106 hf107 (by have h9 := hf108; rw [show x37 = x34 by omega] at h9; exact h9) hE hR (lv_sub hl [1, 4, 5] rfl) hO hP hD hS
                  · replace hR := hR.trans (if_neg h36)
                    first | rw [if_neg h36] at hE | rw [E_MH_small_1_L0, if_neg h36] at hE | rw [E_MH_small_1_L1, if_neg h36] at hE | rw [E_MH_small_1_L2, if_neg h36] at hE | rw [E_MH_small_1_L3, if_neg h36] at hE | rw [E_MH_small_1_L4, if_neg h36] at hE | rw [E_MH_small_1_L5, if_neg h36] at hE | rw [E_MH_small_1_L6, if_neg h36] at hE | rw [E_MH_small_1_L7, if_neg h36] at hE | rw [E_MH_small_1_L8, if_neg h36] at hE | replace hE := iteP_neg h36 hE
                    refine lv_iload hx hb dMH_small_162 (lv_at hl 0 rfl) ?_
                    refine lv_ldc (v := 8380417) hx hb hown (hts _ (wg_t kw_1429)) dMH_small_164 ?_
                    refine mi_as (show (8380417 : Int32) = nI 8380417 by decide) ?_
                    refine lv_iadd hx hb dMH_small_166 ?_
                    refine lv_goto (tgt := 172) hx hb dMH_small_167 (by decide) ?_
                    refine nw_iast hx hb hK hO hU k_f (k := pf) n_f hP hD hS (by omega) (by omega) dMH_small_172 (fun s29 pl H locs es23 hO hP hD hS => ?_)
                    replace hR := bnd_step hR es23
                    first | rw [bnd_step rfl es23] at hE | replace hE := bndP_step hE es23
                    have hF := frm_sI hF es23 (by unfold M_MH_small_1; omega)
                    have hf109 : s29.1 225 23 = nI 1 := fc_ne hf89 es23 (by omega)
                    have hf110 : s29.1 225 24 = nI 6 := fc_ne hf90 es23 (by omega)
                    have hf111 : s29.1 225 25 = nI 5 := fc_ne hf91 es23 (by omega)
                    have hf112 : s29.1 225 26 = nI 4 := fc_ne hf92 es23 (by omega)
                    have hf113 : s29.1 225 27 = nI 524288 := fc_ne hf93 es23 (by omega)
                    have hf114 : s29.1 225 28 = nI 261888 := fc_ne hf94 es23 (by omega)
                    have hf115 : s29.1 225 29 = nI 196 := fc_ne hf95 es23 (by omega)
                    have hf116 : s29.1 225 30 = nI 48 := fc_ne hf96 es23 (by omega)
                    have hf117 : s29.1 172 6 = nI x36 := fc_ne hf97 es23 (by omega)
                    have hf118 : s29.1 172 5 = nI x37 := fc_ne hf98 es23 (by omega)
                    refine mi_iinc (k := 2) (x := nn21 + 1) (d := 1) (y := nn21 + 1 + 1) (lv' := [(5, .int (nI (nn21 + 1 + 1))), (8, .int z27), (7, .int (nI 1)), (6, .int (nI z21)), (0, .ref h0), (1, .ref f)]) hx hb dMH_small_173 hl rfl (by decide) rfl (by decide) rfl (fun ls hl => ?_)
                    refine mi_iinc (k := 2) (x := 1) (d := 1) (y := 2) (lv' := [(7, .int (nI 2)), (5, .int (nI (nn21 + 1 + 1))), (8, .int z27), (6, .int (nI z21)), (0, .ref h0), (1, .ref f)]) hx hb dMH_small_176 hl rfl (by decide) rfl (by decide) rfl (fun ls hl => ?_)
                    refine lv_goto (tgt := 69) hx hb dMH_small_179 (by decide) ?_
                    refine lv_iload hx hb dMH_small_69 (lv_at hl 0 rfl) ?_
                    refine lv_iconst (v := nI 2) hx hb dMH_small_71 (by decide) ?_
                    refine mi_ge (tgt := 182) hx hb dMH_small_72 (by decide) (by omega) (by omega) (fun h38 => ?_) (fun h38 => absurd h38 (by omega))
                    refine lv_goto (tgt := 49) hx hb dMH_small_182 (by decide) ?_
                    exact ih21 (nn21 + 1 + 1) s29 x36 pl ls H locs (by omega) (by omega) (by omega) hF hf109 hf110 hf111 hf112 hf113 hf114 hf115 hf116 hf117 (by have h9 := hf118; rw [show x37 = x34 by omega] at h9; exact h9) hE hR (lv_sub hl [1, 4, 5] rfl) hO hP hD hS
                · replace hR := hR.trans (if_neg (Nat.not_le.mpr h34))
                  first | rw [if_neg (Nat.not_le.mpr h34)] at hE | rw [E_MH_small_1_L0, if_neg (Nat.not_le.mpr h34)] at hE | rw [E_MH_small_1_L1, if_neg (Nat.not_le.mpr h34)] at hE | rw [E_MH_small_1_L2, if_neg (Nat.not_le.mpr h34)] at hE | rw [E_MH_small_1_L3, if_neg (Nat.not_le.mpr h34)] at hE | rw [E_MH_small_1_L4, if_neg (Nat.not_le.mpr h34)] at hE | rw [E_MH_small_1_L5, if_neg (Nat.not_le.mpr h34)] at hE | rw [E_MH_small_1_L6, if_neg (Nat.not_le.mpr h34)] at hE | rw [E_MH_small_1_L7, if_neg (Nat.not_le.mpr h34)] at hE | rw [E_MH_small_1_L8, if_neg (Nat.not_le.mpr h34)] at hE | replace hE := iteP_neg (Nat.not_le.mpr h34) hE
                  refine lv_goto (tgt := 176) hx hb dMH_small_128 (by decide) ?_
                  refine mi_iinc (k := 1) (x := 1) (d := 1) (y := 2) (lv' := [(7, .int (nI 2)), (8, .int (nI (z21 / 16))), (5, .int (nI (nn21 + 1))), (6, .int (nI z21)), (0, .ref h0), (1, .ref f)]) hx hb dMH_small_176 hl rfl (by decide) rfl (by decide) rfl (fun ls hl => ?_)
                  refine lv_goto (tgt := 69) hx hb dMH_small_179 (by decide) ?_
                  refine lv_iload hx hb dMH_small_69 (lv_at hl 0 rfl) ?_
                  refine lv_iconst (v := nI 2) hx hb dMH_small_71 (by decide) ?_
                  refine mi_ge (tgt := 182) hx hb dMH_small_72 (by decide) (by omega) (by omega) (fun h39 => ?_) (fun h39 => absurd h39 (by omega))
                  refine lv_goto (tgt := 49) hx hb dMH_small_182 (by decide) ?_
                  exact ih21 (nn21 + 1) s27 x36 pl ls H locs (by omega) (by omega) (by omega) hF hf89 hf90 hf91 hf92 hf93 hf94 hf95 hf96 hf97 (by have h9 := hf98; rw [show x37 = x34 by omega] at h9; exact h9) hE hR (lv_sub hl [2, 4, 5] rfl) hO hP hD hS
            · replace hR := hR.trans (if_neg h29)
              first | rw [if_neg h29] at hE | rw [E_MH_small_1_L0, if_neg h29] at hE | rw [E_MH_small_1_L1, if_neg h29] at hE | rw [E_MH_small_1_L2, if_neg h29] at hE | rw [E_MH_small_1_L3, if_neg h29] at hE | rw [E_MH_small_1_L4, if_neg h29] at hE | rw [E_MH_small_1_L5, if_neg h29] at hE | rw [E_MH_small_1_L6, if_neg h29] at hE | rw [E_MH_small_1_L7, if_neg h29] at hE | rw [E_MH_small_1_L8, if_neg h29] at hE | replace hE := iteP_neg h29 hE
              refine lv_iload hx hb dMH_small_162 (lv_at hl 0 rfl) ?_
              refine lv_ldc (v := 8380417) hx hb hown (hts _ (wg_t kw_1429)) dMH_small_164 ?_
              refine mi_as (show (8380417 : Int32) = nI 8380417 by decide) ?_
              refine lv_iadd hx hb dMH_small_166 ?_
              refine lv_goto (tgt := 172) hx hb dMH_small_167 (by decide) ?_
              refine nw_iast hx hb hK hO hU k_f (k := pf) n_f hP hD hS (by omega) (by omega) dMH_small_172 (fun s30 pl H locs es24 hO hP hD hS => ?_)
              replace hR := bnd_step hR es24
              first | rw [bnd_step rfl es24] at hE | replace hE := bndP_step hE es24
              have hF := frm_sI hF es24 (by unfold M_MH_small_1; omega)
              have hf119 : s30.1 225 23 = nI 1 := fc_ne hf81 es24 (by omega)
              have hf120 : s30.1 225 24 = nI 6 := fc_ne hf82 es24 (by omega)
              have hf121 : s30.1 225 25 = nI 5 := fc_ne hf83 es24 (by omega)
              have hf122 : s30.1 225 26 = nI 4 := fc_ne hf84 es24 (by omega)
              have hf123 : s30.1 225 27 = nI 524288 := fc_ne hf85 es24 (by omega)
              have hf124 : s30.1 225 28 = nI 261888 := fc_ne hf86 es24 (by omega)
              have hf125 : s30.1 225 29 = nI 196 := fc_ne hf87 es24 (by omega)
              have hf126 : s30.1 225 30 = nI 48 := fc_ne hf88 es24 (by omega)
              have hf127 : s30.1 172 6 = nI x36 := fc_ne hx_36 es24 (by omega)
              have hf128 : s30.1 172 5 = nI x37 := fc_ne hx_37 es24 (by omega)
              refine mi_iinc (k := 3) (x := nn21) (d := 1) (y := nn21 + 1) (lv' := [(5, .int (nI (nn21 + 1))), (8, .int z24), (7, .int (nI 0)), (6, .int (nI z21)), (0, .ref h0), (1, .ref f)]) hx hb dMH_small_173 hl rfl (by decide) rfl (by decide) rfl (fun ls hl => ?_)
              refine mi_iinc (k := 2) (x := 0) (d := 1) (y := 1) (lv' := [(7, .int (nI 1)), (5, .int (nI (nn21 + 1))), (8, .int z24), (6, .int (nI z21)), (0, .ref h0), (1, .ref f)]) hx hb dMH_small_176 hl rfl (by decide) rfl (by decide) rfl (fun ls hl => ?_)
              refine lv_goto (tgt := 69) hx hb dMH_small_179 (by decide) ?_
              refine lv_iload hx hb dMH_small_69 (lv_at hl 0 rfl) ?_
              refine lv_iconst (v := nI 2) hx hb dMH_small_71 (by decide) ?_
              refine mi_ge (tgt := 182) hx hb dMH_small_72 (by decide) (by omega) (by omega) (fun h40 => absurd h40 (by omega)) (fun h40 => ?_)
              refine lv_iload hx hb dMH_small_75 (lv_at hl 1 rfl) ?_
              refine lv_sipush (v := nI 256) hx hb dMH_small_77 (by decide) ?_
              refine mi_ge (tgt := 182) hx hb dMH_small_80 (by decide) (by omega) (by omega) (fun h41 => ?_) (fun h41 => ?_)
              · replace hR := hR.trans (if_pos h41)
                first | rw [if_pos h41] at hE | rw [E_MH_small_1_L0, if_pos h41] at hE | rw [E_MH_small_1_L1, if_pos h41] at hE | rw [E_MH_small_1_L2, if_pos h41] at hE | rw [E_MH_small_1_L3, if_pos h41] at hE | rw [E_MH_small_1_L4, if_pos h41] at hE | rw [E_MH_small_1_L5, if_pos h41] at hE | rw [E_MH_small_1_L6, if_pos h41] at hE | rw [E_MH_small_1_L7, if_pos h41] at hE | rw [E_MH_small_1_L8, if_pos h41] at hE | replace hE := iteP_pos h41 hE
                refine lv_goto (tgt := 49) hx hb dMH_small_182 (by decide) ?_
                exact ih21 (nn21 + 1) s30 x36 pl ls H locs (by omega) (by omega) (by omega) hF hf119 hf120 hf121 hf122 hf123 hf124 hf125 hf126 hf127 (by have h9 := hf128; rw [show x37 = x34 by omega] at h9; exact h9) hE hR (lv_sub hl [1, 4, 5] rfl) hO hP hD hS
              · replace hR := hR.trans (if_neg (Nat.not_le.mpr h41))
                first | rw [if_neg (Nat.not_le.mpr h41)] at hE | rw [E_MH_small_1_L0, if_neg (Nat.not_le.mpr h41)] at hE | rw [E_MH_small_1_L1, if_neg (Nat.not_le.mpr h41)] at hE | rw [E_MH_small_1_L2, if_neg (Nat.not_le.mpr h41)] at hE | rw [E_MH_small_1_L3, if_neg (Nat.not_le.mpr h41)] at hE | rw [E_MH_small_1_L4, if_neg (Nat.not_le.mpr h41)] at hE | rw [E_MH_small_1_L5, if_neg (Nat.not_le.mpr h41)] at hE | rw [E_MH_small_1_L6, if_neg (Nat.not_le.mpr h41)] at hE | rw [E_MH_small_1_L7, if_neg (Nat.not_le.mpr h41)] at hE | rw [E_MH_small_1_L8, if_neg (Nat.not_le.mpr h41)] at hE | replace hE := iteP_neg (Nat.not_le.mpr h41) hE
                refine lv_iload hx hb dMH_small_83 (lv_at hl 0 rfl) ?_
                refine lv_if_ne (tgt := 96) hx hb dMH_small_85 (by decide) (fun h42 => ?_) (fun h42 => absurd h42 (by decide))
                refine lv_iload hx hb dMH_small_96 (lv_at hl 3 rfl) ?_
                refine lv_bipush (v := nI 16) hx hb dMH_small_98 (by decide) ?_
                refine mi_idiv hx hb dMH_small_100 (by omega) (by omega) (by omega) ?_
                refine lv_istore (lv' := [(8, .int (nI (z21 / 16))), (7, .int (nI 1)), (5, .int (nI (nn21 + 1))), (6, .int (nI z21)), (0, .ref h0), (1, .ref f)]) hx hb dMH_small_101 hl (by decide) rfl (fun ls hl => ?_)
                refine lv_aload_n hx hb dMH_small_103 rfl (lv_at hl 4 rfl) ?_
                refine nw_get (C := "LatticeKeysModel$Hands") (TT := T_MH) (N := 31) hx hb hts (wg_ft i_MH) hown hK hO k_h0 (kn := 225) (ci := 12) (fl := [(3, 172), (3, 181), (3, 226), (3, 291), (3, 299), (3, 308), (3, 317), (3, 326), (3, 334), (3, 342), (3, 350), (3, 359), (3, 368), (3, 369), (3, 370), (3, 371), (3, 372), (3, 373), (3, 374), (3, 375), (3, 376), (3, 377), (3, 378), (0, 0), (0, 0), (0, 0), (0, 0), (0, 0), (0, 0), (0, 0), (0, 0)]) rfl hP rfl 26 (by decide) (hts _ (wg_t kw_1458)) (fun _ h9 => h9) (cd := (0, 0)) rfl dMH_small_104 (fun v31 hv31 => ?_)
                obtain rfl := (show v31 = .int (s30.1 225 26) from hv31)
                obtain ⟨z28, ez28, hz31, hz32⟩ := cl_of (b := 2147483648) hf122 (by omega) (by decide)
                replace hR := bnd_step hR ez28
                first | rw [bnd_step rfl ez28] at hE | replace hE := bndP_step hE ez28
                refine mi_as hz31 ?_
                subst hz32
                refine lv_iconst (v := nI 2) hx hb dMH_small_107 (by decide) ?_
                refine mi_ne (tgt := 121) hx hb dMH_small_108 (by decide) (by omega) (by omega) (fun h43 => ?_) (fun h43 => absurd h43 (by omega))
                refine lv_iload hx hb dMH_small_121 (lv_at hl 0 rfl) ?_
                refine lv_bipush (v := nI 8) hx hb dMH_small_123 (by decide) ?_
                refine mi_le (tgt := 131) hx hb dMH_small_125 (by decide) (by omega) (by omega) (fun h44 => ?_) (fun h44 => ?_)
                · replace hR := hR.trans (if_pos h44)
                  first | rw [if_pos h44] at hE | rw [E_MH_small_1_L0, if_pos h44] at hE | rw [E_MH_small_1_L1, if_pos h44] at hE | rw [E_MH_small_1_L2, if_pos h44] at hE | rw [E_MH_small_1_L3, if_pos h44] at hE | rw [E_MH_small_1_L4, if_pos h44] at hE | rw [E_MH_small_1_L5, if_pos h44] at hE | rw [E_MH_small_1_L6, if_pos h44] at hE | rw [E_MH_small_1_L7, if_pos h44] at hE | rw [E_MH_small_1_L8, if_pos h44] at hE | replace hE := iteP_pos h44 hE
                  refine lv_aload_n hx hb dMH_small_131 rfl (lv_at hl 4 rfl) ?_
                  refine nw_get (C := "LatticeKeysModel$Hands") (TT := T_MH) (N := 31) hx hb hts (wg_ft i_MH) hown hK hO k_h0 (kn := 225) (ci := 12) (fl := [(3, 172), (3, 181), (3, 226), (3, 291), (3, 299), (3, 308), (3, 317), (3, 326), (3, 334), (3, 342), (3, 350), (3, 359), (3, 368), (3, 369), (3, 370), (3, 371), (3, 372), (3, 373), (3, 374), (3, 375), (3, 376), (3, 377), (3, 378), (0, 0), (0, 0), (0, 0), (0, 0), (0, 0), (0, 0), (0, 0), (0, 0)]) rfl hP rfl 26 (by decide) (hts _ (wg_t kw_1458)) (fun _ h9 => h9) (cd := (0, 0)) rfl dMH_small_132 (fun v32 hv32 => ?_)
                  obtain rfl := (show v32 = .int (s30.1 225 26) from hv32)
                  obtain ⟨z29, ez29, hz33, hz34⟩ := cl_of (b := 2147483648) hf122 (by omega) (by decide)
                  replace hR := bnd_step hR ez29
                  first | rw [bnd_step rfl ez29] at hE | replace hE := bndP_step hE ez29
                  refine mi_as hz33 ?_
                  subst hz34
                  refine lv_iconst (v := nI 2) hx hb dMH_small_135 (by decide) ?_
                  refine mi_ne (tgt := 148) hx hb dMH_small_136 (by decide) (by omega) (by omega) (fun h45 => ?_) (fun h45 => absurd h45 (by omega))
                  refine lv_iconst (v := nI 4) hx hb dMH_small_148 (by decide) ?_
                  refine lv_iload hx hb dMH_small_149 (lv_at hl 0 rfl) ?_
                  refine lv_isub hx hb dMH_small_151 ?_
                  refine mi_eqv (fun z30 ez30 => ?_)
                  replace hR := bnd_step hR ez30
                  first | rw [bnd_step rfl ez30] at hE | replace hE := bndP_step hE ez30
                  refine lv_istore (lv' := [(8, .int z30), (7, .int (nI 1)), (5, .int (nI (nn21 + 1))), (6, .int (nI z21)), (0, .ref h0), (1, .ref f)]) hx hb dMH_small_152 hl (by decide) rfl (fun ls hl => ?_)
                  refine lv_aload_n hx hb dMH_small_154 rfl (lv_at hl 5 rfl) ?_
                  refine lv_iload hx hb dMH_small_155 (lv_at hl 2 rfl) ?_
                  refine lv_iload hx hb dMH_small_157 (lv_at hl 0 rfl) ?_
                  refine lv_if_ge (tgt := 170) hx hb dMH_small_159 (by decide) (fun h46 => ?_) (fun h46 => ?_)
                  · replace hR := hR.trans (if_pos h46)
                    first | rw [if_pos h46] at hE | rw [E_MH_small_1_L0, if_pos h46] at hE | rw [E_MH_small_1_L1, if_pos h46] at hE | rw [E_MH_small_1_L2, if_pos h46] at hE | rw [E_MH_small_1_L3, if_pos h46] at hE | rw [E_MH_small_1_L4, if_pos h46] at hE | rw [E_MH_small_1_L5, if_pos h46] at hE | rw [E_MH_small_1_L6, if_pos h46] at hE | rw [E_MH_small_1_L7, if_pos h46] at hE | rw [E_MH_small_1_L8, if_pos h46] at hE | replace hE := iteP_pos h46 hE
                    refine lv_iload hx hb dMH_small_170 (lv_at hl 0 rfl) ?_
                    refine nw_iast hx hb hK hO hU k_f (k := pf) n_f hP hD hS (by omega) (by omega) dMH_small_172 (fun s31 pl H locs es25 hO hP hD hS => ?_)
                    replace hR := bnd_step hR es25
                    first | rw [bnd_step rfl es25] at hE | replace hE := bndP_step hE es25
                    have hF := frm_sI hF es25 (by unfold M_MH_small_1; omega)
                    have hf129 : s31.1 225 23 = nI 1 := fc_ne hf119 es25 (by omega)
                    have hf130 : s31.1 225 24 = nI 6 := fc_ne hf120 es25 (by omega)
                    have hf131 : s31.1 225 25 = nI 5 := fc_ne hf121 es25 (by omega)
                    have hf132 : s31.1 225 26 = nI 4 := fc_ne hf122 es25 (by omega)
                    have hf133 : s31.1 225 27 = nI 524288 := fc_ne hf123 es25 (by omega)
                    have hf134 : s31.1 225 28 = nI 261888 := fc_ne hf124 es25 (by omega)
                    have hf135 : s31.1 225 29 = nI 196 := fc_ne hf125 es25 (by omega)
                    have hf136 : s31.1 225 30 = nI 48 := fc_ne hf126 es25 (by omega)
                    have hf137 : s31.1 172 6 = nI x36 := fc_ne hf127 es25 (by omega)
                    have hf138 : s31.1 172 5 = nI x37 := fc_ne hf128 es25 (by omega)
                    refine mi_iinc (k := 2) (x := nn21 + 1) (d := 1) (y := nn21 + 1 + 1) (lv' := [(5, .int (nI (nn21 + 1 + 1))), (8, .int z30), (7, .int (nI 1)), (6, .int (nI z21)), (0, .ref h0), (1, .ref f)]) hx hb dMH_small_173 hl rfl (by decide) rfl (by decide) rfl (fun ls hl => ?_)
                    refine mi_iinc (k := 2) (x := 1) (d := 1) (y := 2) (lv' := [(7, .int (nI 2)), (5, .int (nI (nn21 + 1 + 1))), (8, .int z30), (6, .int (nI z21)), (0, .ref h0), (1, .ref f)]) hx hb dMH_small_176 hl rfl (by decide) rfl (by decide) rfl (fun ls hl => ?_)
                    refine lv_goto (tgt := 69) hx hb dMH_small_179 (by decide) ?_
                    refine lv_iload hx hb dMH_small_69 (lv_at hl 0 rfl) ?_
                    refine lv_iconst (v := nI 2) hx hb dMH_small_71 (by decide) ?_
                    refine mi_ge (tgt := 182) hx hb dMH_small_72 (by decide) (by omega) (by omega) (fun h47 => ?_) (fun h47 => absurd h47 (by omega))
                    refine lv_goto (tgt := 49) hx hb dMH_small_182 (by decide) ?_
                    exact ih21 (nn21 + 1 + 1) s31 x36 pl ls H locs (by omega) (by omega) (by omega) hF hf129 hf130 hf131 hf132 hf133 hf134 hf135 hf136 hf137 (by have h9 := hf138; rw [show x37 = x34 by omega] at h9; exact h9) hE hR (lv_sub hl [1, 4, 5] rfl) hO hP hD hS
                  · replace hR := hR.trans (if_neg h46)
                    first | rw [if_neg h46] at hE | rw [E_MH_small_1_L0, if_neg h46] at hE | rw [E_MH_small_1_L1, if_neg h46] at hE | rw [E_MH_small_1_L2, if_neg h46] at hE | rw [E_MH_small_1_L3, if_neg h46] at hE | rw [E_MH_small_1_L4, if_neg h46] at hE | rw [E_MH_small_1_L5, if_neg h46] at hE | rw [E_MH_small_1_L6, if_neg h46] at hE | rw [E_MH_small_1_L7, if_neg h46] at hE | rw [E_MH_small_1_L8, if_neg h46] at hE | replace hE := iteP_neg h46 hE
                    refine lv_iload hx hb dMH_small_162 (lv_at hl 0 rfl) ?_
                    refine lv_ldc (v := 8380417) hx hb hown (hts _ (wg_t kw_1429)) dMH_small_164 ?_
                    refine mi_as (show (8380417 : Int32) = nI 8380417 by decide) ?_
                    refine lv_iadd hx hb dMH_small_166 ?_
                    refine lv_goto (tgt := 172) hx hb dMH_small_167 (by decide) ?_
                    refine nw_iast hx hb hK hO hU k_f (k := pf) n_f hP hD hS (by omega) (by omega) dMH_small_172 (fun s32 pl H locs es26 hO hP hD hS => ?_)
                    replace hR := bnd_step hR es26
                    first | rw [bnd_step rfl es26] at hE | replace hE := bndP_step hE es26
                    have hF := frm_sI hF es26 (by unfold M_MH_small_1; omega)
                    have hf139 : s32.1 225 23 = nI 1 := fc_ne hf119 es26 (by omega)
                    have hf140 : s32.1 225 24 = nI 6 := fc_ne hf120 es26 (by omega)
                    have hf141 : s32.1 225 25 = nI 5 := fc_ne hf121 es26 (by omega)
                    have hf142 : s32.1 225 26 = nI 4 := fc_ne hf122 es26 (by omega)
                    have hf143 : s32.1 225 27 = nI 524288 := fc_ne hf123 es26 (by omega)
                    have hf144 : s32.1 225 28 = nI 261888 := fc_ne hf124 es26 (by omega)
                    have hf145 : s32.1 225 29 = nI 196 := fc_ne hf125 es26 (by omega)
                    have hf146 : s32.1 225 30 = nI 48 := fc_ne hf126 es26 (by omega)
                    have hf147 : s32.1 172 6 = nI x36 := fc_ne hf127 es26 (by omega)
                    have hf148 : s32.1 172 5 = nI x37 := fc_ne hf128 es26 (by omega)
                    refine mi_iinc (k := 2) (x := nn21 + 1) (d := 1) (y := nn21 + 1 + 1) (lv' := [(5, .int (nI (nn21 + 1 + 1))), (8, .int z30), (7, .int (nI 1)), (6, .int (nI z21)), (0, .ref h0), (1, .ref f)]) hx hb dMH_small_173 hl rfl (by decide) rfl (by decide) rfl (fun ls hl => ?_)
                    refine mi_iinc (k := 2) (x := 1) (d := 1) (y := 2) (lv' := [(7, .int (nI 2)), (5, .int (nI (nn21 + 1 + 1))), (8, .int z30), (6, .int (nI z21)), (0, .ref h0), (1, .ref f)]) hx hb dMH_small_176 hl rfl (by decide) rfl (by decide) rfl (fun ls hl => ?_)
                    refine lv_goto (tgt := 69) hx hb dMH_small_179 (by decide) ?_
                    refine lv_iload hx hb dMH_small_69 (lv_at hl 0 rfl) ?_
                    refine lv_iconst (v := nI 2) hx hb dMH_small_71 (by decide) ?_
                    refine mi_ge (tgt := 182) hx hb dMH_small_72 (by decide) (by omega) (by omega) (fun h48 => ?_) (fun h48 => absurd h48 (by omega))
                    refine lv_goto (tgt := 49) hx hb dMH_small_182 (by decide) ?_
                    exact ih21 (nn21 + 1 + 1) s32 x36 pl ls H locs (by omega) (by omega) (by omega) hF hf139 hf140 hf141 hf142 hf143 hf144 hf145 hf146 hf147 (by have h9 := hf148; rw [show x37 = x34 by omega] at h9; exact h9) hE hR (lv_sub hl [1, 4, 5] rfl) hO hP hD hS
                · replace hR := hR.trans (if_neg (Nat.not_le.mpr h44))
                  first | rw [if_neg (Nat.not_le.mpr h44)] at hE | rw [E_MH_small_1_L0, if_neg (Nat.not_le.mpr h44)] at hE | rw [E_MH_small_1_L1, if_neg (Nat.not_le.mpr h44)] at hE | rw [E_MH_small_1_L2, if_neg (Nat.not_le.mpr h44)] at hE | rw [E_MH_small_1_L3, if_neg (Nat.not_le.mpr h44)] at hE | rw [E_MH_small_1_L4, if_neg (Nat.not_le.mpr h44)] at hE | rw [E_MH_small_1_L5, if_neg (Nat.not_le.mpr h44)] at hE | rw [E_MH_small_1_L6, if_neg (Nat.not_le.mpr h44)] at hE | rw [E_MH_small_1_L7, if_neg (Nat.not_le.mpr h44)] at hE | rw [E_MH_small_1_L8, if_neg (Nat.not_le.mpr h44)] at hE | replace hE := iteP_neg (Nat.not_le.mpr h44) hE
                  refine lv_goto (tgt := 176) hx hb dMH_small_128 (by decide) ?_
                  refine mi_iinc (k := 1) (x := 1) (d := 1) (y := 2) (lv' := [(7, .int (nI 2)), (8, .int (nI (z21 / 16))), (5, .int (nI (nn21 + 1))), (6, .int (nI z21)), (0, .ref h0), (1, .ref f)]) hx hb dMH_small_176 hl rfl (by decide) rfl (by decide) rfl (fun ls hl => ?_)
                  refine lv_goto (tgt := 69) hx hb dMH_small_179 (by decide) ?_
                  refine lv_iload hx hb dMH_small_69 (lv_at hl 0 rfl) ?_
                  refine lv_iconst (v := nI 2) hx hb dMH_small_71 (by decide) ?_
                  refine mi_ge (tgt := 182) hx hb dMH_small_72 (by decide) (by omega) (by omega) (fun h49 => ?_) (fun h49 => absurd h49 (by omega))
                  refine lv_goto (tgt := 49) hx hb dMH_small_182 (by decide) ?_
                  exact ih21 (nn21 + 1) s30 x36 pl ls H locs (by omega) (by omega) (by omega) hF hf119 hf120 hf121 hf122 hf123 hf124 hf125 hf126 hf127 (by have h9 := hf128; rw [show x37 = x34 by omega] at h9; exact h9) hE hR (lv_sub hl [2, 4, 5] rfl) hO hP hD hS
          · replace hR := hR.trans (if_neg (Nat.not_le.mpr h27))
            first | rw [if_neg (Nat.not_le.mpr h27)] at hE | rw [E_MH_small_1_L0, if_neg (Nat.not_le.mpr h27)] at hE | rw [E_MH_small_1_L1, if_neg (Nat.not_le.mpr h27)] at hE | rw [E_MH_small_1_L2, if_neg (Nat.not_le.mpr h27)] at hE | rw [E_MH_small_1_L3, if_neg (Nat.not_le.mpr h27)] at hE | rw [E_MH_small_1_L4, if_neg (Nat.not_le.mpr h27)] at hE | rw [E_MH_small_1_L5, if_neg (Nat.not_le.mpr h27)] at hE | rw [E_MH_small_1_L6, if_neg (Nat.not_le.mpr h27)] at hE | rw [E_MH_small_1_L7, if_neg (Nat.not_le.mpr h27)] at hE | rw [E_MH_small_1_L8, if_neg (Nat.not_le.mpr h27)] at hE | replace hE := iteP_neg (Nat.not_le.mpr h27) hE
            refine lv_goto (tgt := 176) hx hb dMH_small_128 (by decide) ?_
            refine mi_iinc (k := 1) (x := 0) (d := 1) (y := 1) (lv' := [(7, .int (nI 1)), (8, .int (nI (z21 % 16))), (6, .int (nI z21)), (5, .int (nI nn21)), (0, .ref h0), (1, .ref f)]) hx hb dMH_small_176 hl rfl (by decide) rfl (by decide) rfl (fun ls hl => ?_)
            refine lv_goto (tgt := 69) hx hb dMH_small_179 (by decide) ?_
            refine lv_iload hx hb dMH_small_69 (lv_at hl 0 rfl) ?_
            refine lv_iconst (v := nI 2) hx hb dMH_small_71 (by decide) ?_
            refine mi_ge (tgt := 182) hx hb dMH_small_72 (by decide) (by omega) (by omega) (fun h50 => absurd h50 (by omega)) (fun h50 => ?_)
            refine lv_iload hx hb dMH_small_75 (lv_at hl 3 rfl) ?_
            refine lv_sipush (v := nI 256) hx hb dMH_small_77 (by decide) ?_
            refine mi_ge (tgt := 182) hx hb dMH_small_80 (by decide) (by omega) (by omega) (fun h51 => ?_) (fun h51 => ?_)
            · replace hR := hR.trans (if_pos h51)
              first | rw [if_pos h51] at hE | rw [E_MH_small_1_L0, if_pos h51] at hE | rw [E_MH_small_1_L1, if_pos h51] at hE | rw [E_MH_small_1_L2, if_pos h51] at hE | rw [E_MH_small_1_L3, if_pos h51] at hE | rw [E_MH_small_1_L4, if_pos h51] at hE | rw [E_MH_small_1_L5, if_pos h51] at hE | rw [E_MH_small_1_L6, if_pos h51] at hE | rw [E_MH_small_1_L7, if_pos h51] at hE | rw [E_MH_small_1_L8, if_pos h51] at hE | replace hE := iteP_pos h51 hE
              refine lv_goto (tgt := 49) hx hb dMH_small_182 (by decide) ?_
              exact ih21 nn21 q21.2 x36 pl ls H locs (by omega) (by omega) (by omega) hF hf81 hf82 hf83 hf84 hf85 hf86 hf87 hf88 hx_36 (by have h9 := hx_37; rw [show x37 = x34 by omega] at h9; exact h9) hE hR (lv_sub hl [3, 4, 5] rfl) hO hP hD hS
            · replace hR := hR.trans (if_neg (Nat.not_le.mpr h51))
              first | rw [if_neg (Nat.not_le.mpr h51)] at hE | rw [E_MH_small_1_L0, if_neg (Nat.not_le.mpr h51)] at hE | rw [E_MH_small_1_L1, if_neg (Nat.not_le.mpr h51)] at hE | rw [E_MH_small_1_L2, if_neg (Nat.not_le.mpr h51)] at hE | rw [E_MH_small_1_L3, if_neg (Nat.not_le.mpr h51)] at hE | rw [E_MH_small_1_L4, if_neg (Nat.not_le.mpr h51)] at hE | rw [E_MH_small_1_L5, if_neg (Nat.not_le.mpr h51)] at hE | rw [E_MH_small_1_L6, if_neg (Nat.not_le.mpr h51)] at hE | rw [E_MH_small_1_L7, if_neg (Nat.not_le.mpr h51)] at hE | rw [E_MH_small_1_L8, if_neg (Nat.not_le.mpr h51)] at hE | replace hE := iteP_neg (Nat.not_le.mpr h51) hE
              refine lv_iload hx hb dMH_small_83 (lv_at hl 0 rfl) ?_
              refine lv_if_ne (tgt := 96) hx hb dMH_small_85 (by decide) (fun h52 => ?_) (fun h52 => absurd h52 (by decide))
              refine lv_iload hx hb dMH_small_96 (lv_at hl 2 rfl) ?_
              refine lv_bipush (v := nI 16) hx hb dMH_small_98 (by decide) ?_
              refine mi_idiv hx hb dMH_small_100 (by omega) (by omega) (by omega) ?_
              refine lv_istore (lv' := [(8, .int (nI (z21 / 16))), (7, .int (nI 1)), (6, .int (nI z21)), (5, .int (nI nn21)), (0, .ref h0), (1, .ref f)]) hx hb dMH_small_101 hl (by decide) rfl (fun ls hl => ?_)
              refine lv_aload_n hx hb dMH_small_103 rfl (lv_at hl 4 rfl) ?_
              refine nw_get (C := "LatticeKeysModel$Hands") (TT := T_MH) (N := 31) hx hb hts (wg_ft i_MH) hown hK hO k_h0 (kn := 225) (ci := 12) (fl := [(3, 172), (3, 181), (3, 226), (3, 291), (3, 299), (3, 308), (3, 317), (3, 326), (3, 334), (3, 342), (3, 350), (3, 359), (3, 368), (3, 369), (3, 370), (3, 371), (3, 372), (3, 373), (3, 374), (3, 375), (3, 376), (3, 377), (3, 378), (0, 0), (0, 0), (0, 0), (0, 0), (0, 0), (0, 0), (0, 0), (0, 0)]) rfl hP rfl 26 (by decide) (hts _ (wg_t kw_1458)) (fun _ h9 => h9) (cd := (0, 0)) rfl dMH_small_104 (fun v33 hv33 => ?_)
              obtain rfl := (show v33 = .int (q21.2.1 225 26) from hv33)
              obtain ⟨z31, ez31, hz35, hz36⟩ := cl_of (b := 2147483648) hf84 (by omega) (by decide)
              replace hR := bnd_step hR ez31
              first | rw [bnd_step rfl ez31] at hE | replace hE := bndP_step hE ez31
              refine mi_as hz35 ?_
              subst hz36
              refine lv_iconst (v := nI 2) hx hb dMH_small_107 (by decide) ?_
              refine mi_ne (tgt := 121) hx hb dMH_small_108 (by decide) (by omega) (by omega) (fun h53 => ?_) (fun h53 => absurd h53 (by omega))
              refine lv_iload hx hb dMH_small_121 (lv_at hl 0 rfl) ?_
              refine lv_bipush (v := nI 8) hx hb dMH_small_123 (by decide) ?_
              refine mi_le (tgt := 131) hx hb dMH_small_125 (by decide) (by omega) (by omega) (fun h54 => ?_) (fun h54 => ?_)
              · replace hR := hR.trans (if_pos h54)
                first | rw [if_pos h54] at hE | rw [E_MH_small_1_L0, if_pos h54] at hE | rw [E_MH_small_1_L1, if_pos h54] at hE | rw [E_MH_small_1_L2, if_pos h54] at hE | rw [E_MH_small_1_L3, if_pos h54] at hE | rw [E_MH_small_1_L4, if_pos h54] at hE | rw [E_MH_small_1_L5, if_pos h54] at hE | rw [E_MH_small_1_L6, if_pos h54] at hE | rw [E_MH_small_1_L7, if_pos h54] at hE | rw [E_MH_small_1_L8, if_pos h54] at hE | replace hE := iteP_pos h54 hE
                refine lv_aload_n hx hb dMH_small_131 rfl (lv_at hl 4 rfl) ?_
                refine nw_get (C := "LatticeKeysModel$Hands") (TT := T_MH) (N := 31) hx hb hts (wg_ft i_MH) hown hK hO k_h0 (kn := 225) (ci := 12) (fl := [(3, 172), (3, 181), (3, 226), (3, 291), (3, 299), (3, 308), (3, 317), (3, 326), (3, 334), (3, 342), (3, 350), (3, 359), (3, 368), (3, 369), (3, 370), (3, 371), (3, 372), (3, 373), (3, 374), (3, 375), (3, 376), (3, 377), (3, 378), (0, 0), (0, 0), (0, 0), (0, 0), (0, 0), (0, 0), (0, 0), (0, 0)]) rfl hP rfl 26 (by decide) (hts _ (wg_t kw_1458)) (fun _ h9 => h9) (cd := (0, 0)) rfl dMH_small_132 (fun v34 hv34 => ?_)
                obtain rfl := (show v34 = .int (q21.2.1 225 26) from hv34)
                obtain ⟨z32, ez32, hz37, hz38⟩ := cl_of (b := 2147483648) hf84 (by omega) (by decide)
                replace hR := bnd_step hR ez32
                first | rw [bnd_step rfl ez32] at hE | replace hE := bndP_step hE ez32
                refine mi_as hz37 ?_
                subst hz38
                refine lv_iconst (v := nI 2) hx hb dMH_small_135 (by decide) ?_
                refine mi_ne (tgt := 148) hx hb dMH_small_136 (by decide) (by omega) (by omega) (fun h55 => ?_) (fun h55 => absurd h55 (by omega))
                refine lv_iconst (v := nI 4) hx hb dMH_small_148 (by decide) ?_
                refine lv_iload hx hb dMH_small_149 (lv_at hl 0 rfl) ?_
                refine lv_isub hx hb dMH_small_151 ?_
                refine mi_eqv (fun z33 ez33 => ?_)
                replace hR := bnd_step hR ez33
                first | rw [bnd_step rfl ez33] at hE | replace hE := bndP_step hE ez33
                refine lv_istore (lv' := [(8, .int z33), (7, .int (nI 1)), (6, .int (nI z21)), (5, .int (nI nn21)), (0, .ref h0), (1, .ref f)]) hx hb dMH_small_152 hl (by decide) rfl (fun ls hl => ?_)
                refine lv_aload_n hx hb dMH_small_154 rfl (lv_at hl 5 rfl) ?_
                refine lv_iload hx hb dMH_small_155 (lv_at hl 3 rfl) ?_
                refine lv_iload hx hb dMH_small_157 (lv_at hl 0 rfl) ?_
                refine lv_if_ge (tgt := 170) hx hb dMH_small_159 (by decide) (fun h56 => ?_) (fun h56 => ?_)
                · replace hR := hR.trans (if_pos h56)
                  first | rw [if_pos h56] at hE | rw [E_MH_small_1_L0, if_pos h56] at hE | rw [E_MH_small_1_L1, if_pos h56] at hE | rw [E_MH_small_1_L2, if_pos h56] at hE | rw [E_MH_small_1_L3, if_pos h56] at hE | rw [E_MH_small_1_L4, if_pos h56] at hE | rw [E_MH_small_1_L5, if_pos h56] at hE | rw [E_MH_small_1_L6, if_pos h56] at hE | rw [E_MH_small_1_L7, if_pos h56] at hE | rw [E_MH_small_1_L8, if_pos h56] at hE | replace hE := iteP_pos h56 hE
                  refine lv_iload hx hb dMH_small_170 (lv_at hl 0 rfl) ?_
                  refine nw_iast hx hb hK hO hU k_f (k := pf) n_f hP hD hS (by omega) (by omega) dMH_small_172 (fun s33 pl H locs es27 hO hP hD hS => ?_)
                  replace hR := bnd_step hR es27
                  first | rw [bnd_step rfl es27] at hE | replace hE := bndP_step hE es27
                  have hF := frm_sI hF es27 (by unfold M_MH_small_1; omega)
                  have hf149 : s33.1 225 23 = nI 1 := fc_ne hf81 es27 (by omega)
                  have hf150 : s33.1 225 24 = nI 6 := fc_ne hf82 es27 (by omega)
                  have hf151 : s33.1 225 25 = nI 5 := fc_ne hf83 es27 (by omega)
                  have hf152 : s33.1 225 26 = nI 4 := fc_ne hf84 es27 (by omega)
                  have hf153 : s33.1 225 27 = nI 524288 := fc_ne hf85 es27 (by omega)
                  have hf154 : s33.1 225 28 = nI 261888 := fc_ne hf86 es27 (by omega)
                  have hf155 : s33.1 225 29 = nI 196 := fc_ne hf87 es27 (by omega)
                  have hf156 : s33.1 225 30 = nI 48 := fc_ne hf88 es27 (by omega)
                  have hf157 : s33.1 172 6 = nI x36 := fc_ne hx_36 es27 (by omega)
                  have hf158 : s33.1 172 5 = nI x37 := fc_ne hx_37 es27 (by omega)
                  refine mi_iinc (k := 3) (x := nn21) (d := 1) (y := nn21 + 1) (lv' := [(5, .int (nI (nn21 + 1))), (8, .int z33), (7, .int (nI 1)), (6, .int (nI z21)), (0, .ref h0), (1, .ref f)]) hx hb dMH_small_173 hl rfl (by decide) rfl (by decide) rfl (fun ls hl => ?_)
                  refine mi_iinc (k := 2) (x := 1) (d := 1) (y := 2) (lv' := [(7, .int (nI 2)), (5, .int (nI (nn21 + 1))), (8, .int z33), (6, .int (nI z21)), (0, .ref h0), (1, .ref f)]) hx hb dMH_small_176 hl rfl (by decide) rfl (by decide) rfl (fun ls hl => ?_)
                  refine lv_goto (tgt := 69) hx hb dMH_small_179 (by decide) ?_
                  refine lv_iload hx hb dMH_small_69 (lv_at hl 0 rfl) ?_
                  refine lv_iconst (v := nI 2) hx hb dMH_small_71 (by decide) ?_
                  refine mi_ge (tgt := 182) hx hb dMH_small_72 (by decide) (by omega) (by omega) (fun h57 => ?_) (fun h57 => absurd h57 (by omega))
                  refine lv_goto (tgt := 49) hx hb dMH_small_182 (by decide) ?_
                  exact ih21 (nn21 + 1) s33 x36 pl ls H locs (by omega) (by omega) (by omega) hF hf149 hf150 hf151 hf152 hf153 hf154 hf155 hf156 hf157 (by have h9 := hf158; rw [show x37 = x34 by omega] at h9; exact h9) hE hR (lv_sub hl [1, 4, 5] rfl) hO hP hD hS
                · replace hR := hR.trans (if_neg h56)
                  first | rw [if_neg h56] at hE | rw [E_MH_small_1_L0, if_neg h56] at hE | rw [E_MH_small_1_L1, if_neg h56] at hE | rw [E_MH_small_1_L2, if_neg h56] at hE | rw [E_MH_small_1_L3, if_neg h56] at hE | rw [E_MH_small_1_L4, if_neg h56] at hE | rw [E_MH_small_1_L5, if_neg h56] at hE | rw [E_MH_small_1_L6, if_neg h56] at hE | rw [E_MH_small_1_L7, if_neg h56] at hE | rw [E_MH_small_1_L8, if_neg h56] at hE | replace hE := iteP_neg h56 hE
                  refine lv_iload hx hb dMH_small_162 (lv_at hl 0 rfl) ?_
                  refine lv_ldc (v := 8380417) hx hb hown (hts _ (wg_t kw_1429)) dMH_small_164 ?_
                  refine mi_as (show (8380417 : Int32) = nI 8380417 by decide) ?_
                  refine lv_iadd hx hb dMH_small_166 ?_
                  refine lv_goto (tgt := 172) hx hb dMH_small_167 (by decide) ?_
                  refine nw_iast hx hb hK hO hU k_f (k := pf) n_f hP hD hS (by omega) (by omega) dMH_small_172 (fun s34 pl H locs es28 hO hP hD hS => ?_)
                  replace hR := bnd_step hR es28
                  first | rw [bnd_step rfl es28] at hE | replace hE := bndP_step hE es28
                  have hF := frm_sI hF es28 (by unfold M_MH_small_1; omega)
                  have hf159 : s34.1 225 23 = nI 1 := fc_ne hf81 es28 (by omega)
                  have hf160 : s34.1 225 24 = nI 6 := fc_ne hf82 es28 (by omega)
                  have hf161 : s34.1 225 25 = nI 5 := fc_ne hf83 es28 (by omega)
                  have hf162 : s34.1 225 26 = nI 4 := fc_ne hf84 es28 (by omega)
                  have hf163 : s34.1 225 27 = nI 524288 := fc_ne hf85 es28 (by omega)
                  have hf164 : s34.1 225 28 = nI 261888 := fc_ne hf86 es28 (by omega)
                  have hf165 : s34.1 225 29 = nI 196 := fc_ne hf87 es28 (by omega)
                  have hf166 : s34.1 225 30 = nI 48 := fc_ne hf88 es28 (by omega)
                  have hf167 : s34.1 172 6 = nI x36 := fc_ne hx_36 es28 (by omega)
                  have hf168 : s34.1 172 5 = nI x37 := fc_ne hx_37 es28 (by omega)
                  refine mi_iinc (k := 3) (x := nn21) (d := 1) (y := nn21 + 1) (lv' := [(5, .int (nI (nn21 + 1))), (8, .int z33), (7, .int (nI 1)), (6, .int (nI z21)), (0, .ref h0), (1, .ref f)]) hx hb dMH_small_173 hl rfl (by decide) rfl (by decide) rfl (fun ls hl => ?_)
                  refine mi_iinc (k := 2) (x := 1) (d := 1) (y := 2) (lv' := [(7, .int (nI 2)), (5, .int (nI (nn21 + 1))), (8, .int z33), (6, .int (nI z21)), (0, .ref h0), (1, .ref f)]) hx hb dMH_small_176 hl rfl (by decide) rfl (by decide) rfl (fun ls hl => ?_)
                  refine lv_goto (tgt := 69) hx hb dMH_small_179 (by decide) ?_
                  refine lv_iload hx hb dMH_small_69 (lv_at hl 0 rfl) ?_
                  refine lv_iconst (v := nI 2) hx hb dMH_small_71 (by decide) ?_
                  refine mi_ge (tgt := 182) hx hb dMH_small_72 (by decide) (by omega) (by omega) (fun h58 => ?_) (fun h58 => absurd h58 (by omega))
                  refine lv_goto (tgt := 49) hx hb dMH_small_182 (by decide) ?_
                  exact ih21 (nn21 + 1) s34 x36 pl ls H locs (by omega) (by omega) (by omega) hF hf159 hf160 hf161 hf162 hf163 hf164 hf165 hf166 hf167 (by have h9 := hf168; rw [show x37 = x34 by omega] at h9; exact h9) hE hR (lv_sub hl [1, 4, 5] rfl) hO hP hD hS
              · replace hR := hR.trans (if_neg (Nat.not_le.mpr h54))
                first | rw [if_neg (Nat.not_le.mpr h54)] at hE | rw [E_MH_small_1_L0, if_neg (Nat.not_le.mpr h54)] at hE | rw [E_MH_small_1_L1, if_neg (Nat.not_le.mpr h54)] at hE | rw [E_MH_small_1_L2, if_neg (Nat.not_le.mpr h54)] at hE | rw [E_MH_small_1_L3, if_neg (Nat.not_le.mpr h54)] at hE | rw [E_MH_small_1_L4, if_neg (Nat.not_le.mpr h54)] at hE | rw [E_MH_small_1_L5, if_neg (Nat.not_le.mpr h54)] at hE | rw [E_MH_small_1_L6, if_neg (Nat.not_le.mpr h54)] at hE | rw [E_MH_small_1_L7, if_neg (Nat.not_le.mpr h54)] at hE | rw [E_MH_small_1_L8, if_neg (Nat.not_le.mpr h54)] at hE | replace hE := iteP_neg (Nat.not_le.mpr h54) hE
                refine lv_goto (tgt := 176) hx hb dMH_small_128 (by decide) ?_
                refine mi_iinc (k := 1) (x := 1) (d := 1) (y := 2) (lv' := [(7, .int (nI 2)), (8, .int (nI (z21 / 16))), (6, .int (nI z21)), (5, .int (nI nn21)), (0, .ref h0), (1, .ref f)]) hx hb dMH_small_176 hl rfl (by decide) rfl (by decide) rfl (fun ls hl => ?_)
                refine lv_goto (tgt := 69) hx hb dMH_small_179 (by decide) ?_
                refine lv_iload hx hb dMH_small_69 (lv_at hl 0 rfl) ?_
                refine lv_iconst (v := nI 2) hx hb dMH_small_71 (by decide) ?_
                refine mi_ge (tgt := 182) hx hb dMH_small_72 (by decide) (by omega) (by omega) (fun h59 => ?_) (fun h59 => absurd h59 (by omega))
                refine lv_goto (tgt := 49) hx hb dMH_small_182 (by decide) ?_
                exact ih21 nn21 q21.2 x36 pl ls H locs (by omega) (by omega) (by omega) hF hf81 hf82 hf83 hf84 hf85 hf86 hf87 hf88 hx_36 (by have h9 := hx_37; rw [show x37 = x34 by omega] at h9; exact h9) hE hR (lv_sub hl [3, 4, 5] rfl) hO hP hD hS
  exact lp21 fuelM 0 s25 x33 pl ls _ _ (by omega) (by omega) (by omega) hF hf53 hf54 hf55 hf56 hf57 hf58 hf59 hf60 hx_33 hx_34 hE hR (lv_sub hl [0, 1, 2] rfl) hO hP hD hS
def M_MH_small_2 (pf : Nat) (k : Nat) : Prop := k = 172 ∨ k = pf ∨ (0 : Nat) = 1
noncomputable def F_MH_small_2_L0 (pf : Nat) : Nat → Nat → Sto → Sto
  | 0, nn21, s26 => s26
  | n21 + 1, nn21, s26 => if 256 ≤ nn21 then s26 else bnd (F_MS_next  s26) fun q21 => bnd (q21.1.toNatClampNeg) fun z21 => if 256 ≤ nn21 then F_MH_small_2_L0 pf n21 nn21 q21.2 else bnd ((q21.2.1 225 26).toNatClampNeg) fun z22 => if z21 % 16 ≤ 14 then bnd ((q21.2.1 225 26).toNatClampNeg) fun z23 => bnd (((nI 2) - (nI ((z21 % 16) % 5)))) fun z24 => if 0 ≤ z24 then bnd (sI q21.2 pf nn21 z24) fun s27 => if 256 ≤ nn21 + 1 then F_MH_small_2_L0 pf n21 (nn21 + 1) s27 else bnd ((s27.1 225 26).toNatClampNeg) fun z25 => if z21 / 16 ≤ 14 then bnd ((s27.1 225 26).toNatClampNeg) fun z26 => bnd (((nI 2) - (nI ((z21 / 16) % 5)))) fun z27 => if 0 ≤ z27 then bnd (sI s27 pf (nn21 + 1) z27) fun s28 => F_MH_small_2_L0 pf n21 (nn21 + 1 + 1) s28 else bnd (sI s27 pf (nn21 + 1) (z27 + (nI 8380417))) fun s29 => F_MH_small_2_L0 pf n21 (nn21 + 1 + 1) s29 else F_MH_small_2_L0 pf n21 (nn21 + 1) s27 else bnd (sI q21.2 pf nn21 (z24 + (nI 8380417))) fun s30 => if 256 ≤ nn21 + 1 then F_MH_small_2_L0 pf n21 (nn21 + 1) s30 else bnd ((s30.1 225 26).toNatClampNeg) fun z28 => if z21 / 16 ≤ 14 then bnd ((s30.1 225 26).toNatClampNeg) fun z29 => bnd (((nI 2) - (nI ((z21 / 16) % 5)))) fun z30 => if 0 ≤ z30 then bnd (sI s30 pf (nn21 + 1) z30) fun s31 => F_MH_small_2_L0 pf n21 (nn21 + 1 + 1) s31 else bnd (sI s30 pf (nn21 + 1) (z30 + (nI 8380417))) fun s32 => F_MH_small_2_L0 pf n21 (nn21 + 1 + 1) s32 else F_MH_small_2_L0 pf n21 (nn21 + 1) s30 else if 256 ≤ nn21 then F_MH_small_2_L0 pf n21 nn21 q21.2 else bnd ((q21.2.1 225 26).toNatClampNeg) fun z31 => if z21 / 16 ≤ 14 then bnd ((q21.2.1 225 26).toNatClampNeg) fun z32 => bnd (((nI 2) - (nI ((z21 / 16) % 5)))) fun z33 => if 0 ≤ z33 then bnd (sI q21.2 pf nn21 z33) fun s33 => F_MH_small_2_L0 pf n21 (nn21 + 1) s33 else bnd (sI q21.2 pf nn21 (z33 + (nI 8380417))) fun s34 => F_MH_small_2_L0 pf n21 (nn21 + 1) s34 else F_MH_small_2_L0 pf n21 nn21 q21.2
noncomputable def E_MH_small_2_L0 (pf : Nat) : Nat → Nat → Sto → Prop
  | 0, nn21, s26 => (256 ≤ nn21) ∧ (True)
  | n21 + 1, nn21, s26 => if 256 ≤ nn21 then True else bnd (F_MS_next  s26) fun q21 => bnd (q21.1.toNatClampNeg) fun z21 => if 256 ≤ nn21 then E_MH_small_2_L0 pf n21 nn21 q21.2 else bnd ((q21.2.1 225 26).toNatClampNeg) fun z22 => if z21 % 16 ≤ 14 then bnd ((q21.2.1 225 26).toNatClampNeg) fun z23 => bnd (((nI 2) - (nI ((z21 % 16) % 5)))) fun z24 => if 0 ≤ z24 then bnd (sI q21.2 pf nn21 z24) fun s27 => if 256 ≤ nn21 + 1 then E_MH_small_2_L0 pf n21 (nn21 + 1) s27 else bnd ((s27.1 225 26).toNatClampNeg) fun z25 => if z21 / 16 ≤ 14 then bnd ((s27.1 225 26).toNatClampNeg) fun z26 => bnd (((nI 2) - (nI ((z21 / 16) % 5)))) fun z27 => if 0 ≤ z27 then bnd (sI s27 pf (nn21 + 1) z27) fun s28 => E_MH_small_2_L0 pf n21 (nn21 + 1 + 1) s28 else bnd (sI s27 pf (nn21 + 1) (z27 + (nI 8380417))) fun s29 => E_MH_small_2_L0 pf n21 (nn21 + 1 + 1) s29 else E_MH_small_2_L0 pf n21 (nn21 + 1) s27 else bnd (sI q21.2 pf nn21 (z24 + (nI 8380417))) fun s30 => if 256 ≤ nn21 + 1 then E_MH_small_2_L0 pf n21 (nn21 + 1) s30 else bnd ((s30.1 225 26).toNatClampNeg) fun z28 => if z21 / 16 ≤ 14 then bnd ((s30.1 225 26).toNatClampNeg) fun z29 => bnd (((nI 2) - (nI ((z21 / 16) % 5)))) fun z30 => if 0 ≤ z30 then bnd (sI s30 pf (nn21 + 1) z30) fun s31 => E_MH_small_2_L0 pf n21 (nn21 + 1 + 1) s31 else bnd (sI s30 pf (nn21 + 1) (z30 + (nI 8380417))) fun s32 => E_MH_small_2_L0 pf n21 (nn21 + 1 + 1) s32 else E_MH_small_2_L0 pf n21 (nn21 + 1) s30 else if 256 ≤ nn21 then E_MH_small_2_L0 pf n21 nn21 q21.2 else bnd ((q21.2.1 225 26).toNatClampNeg) fun z31 => if z21 / 16 ≤ 14 then bnd ((q21.2.1 225 26).toNatClampNeg) fun z32 => bnd (((nI 2) - (nI ((z21 / 16) % 5)))) fun z33 => if 0 ≤ z33 then bnd (sI q21.2 pf nn21 z33) fun s33 => E_MH_small_2_L0 pf n21 (nn21 + 1) s33 else bnd (sI q21.2 pf nn21 (z33 + (nI 8380417))) fun s34 => E_MH_small_2_L0 pf n21 (nn21 + 1) s34 else E_MH_small_2_L0 pf n21 nn21 q21.2
noncomputable def F_MH_small_2 (pf : Nat) (pb : Nat) (n : Nat) (at_ : Nat) (wh : Int32) (s : Sto) : Sto := bnd (F_MS_shake  s) fun s21 => bnd (F_MS_puts pb n at_ 64 s21) fun s22 => bnd (F_MS_put wh s22) fun s23 => bnd (F_MS_put (wh >>> ((nI 8) &&& 31)) s23) fun s24 => bnd (F_MS_end  s24) fun s25 => F_MH_small_2_L0 pf fuelM 0 s25
noncomputable def E_MH_small_2 (pf : Nat) (pb : Nat) (n : Nat) (at_ : Nat) (wh : Int32) (s : Sto) : Prop := bnd (F_MS_shake  s) fun s21 => bnd (F_MS_puts pb n at_ 64 s21) fun s22 => bnd (F_MS_put wh s22) fun s23 => bnd (F_MS_put (wh >>> ((nI 8) &&& 31)) s23) fun s24 => bnd (F_MS_end  s24) fun s25 => E_MH_small_2_L0 pf fuelM 0 s25
set_option maxHeartbeats 8000000 in
set_option maxRecDepth 100000 in
theorem N_MH_small_2 (l : Launch) (g : Gd) (sz : Nat) (T : TyN) (s : Sto) (pl : va_W) (hO : okn g T s pl) (hU : inj T) (h0 f b : Nat) (pf : Nat) (pb : Nat) (n : Nat) (at_ : Nat) (wh : Int32) (k_h0 : T h0 = some 225) (k_f : T f = some pf) (n_f : nsp pf = (0, 256, [])) (k_b : T b = some pb) (n_b : nsp pb = (1, n, [])) (e_c0 : s.1 225 23 = nI 2) (e_c1 : s.1 225 24 = nI 8) (e_c2 : s.1 225 25 = nI 7) (e_c3 : s.1 225 26 = nI 2) (e_c4 : s.1 225 27 = nI 524288) (e_c5 : s.1 225 28 = nI 261888) (e_c6 : s.1 225 29 = nI 120) (e_c7 : s.1 225 30 = nI 64) (h1 : at_ + 64 ≤ n) (h2 : n < 65536) (hE : E_MH_small_2 pf pb n at_ wh s)  : Met l y_MH_small w_MH_small ({ frames := 4, cells := 0, slots := 0, locals := 90 } : Room) (va_Pc [.ref h0, .ref f, .ref b, .int (nI at_), .int wh] (pr (en g) g.1 vcl sz ([] ++ pl))) (va_Qv (fun (u : (Sto) × va_W) => (u.1 = F_MH_small_2 pf pb n at_ wh s ∧ frm (M_MH_small_2 pf) s u.1 ∧ True) ∧ okn g T u.1 u.2) (po g.1 vcl (va_A ([] ++ pl) sz) (fun (u : (Sto) × va_W) => [] ++ u.2)) (va_A ([] ++ pl) sz)) 0 0 (va_A ([] ++ pl) sz) := by
  refine mc_entry (cc := c_MH_small) (maxL := 9) (ret := none) (by decide) rfl (Nat.le_of_ble_eq_true rfl) ?_
  intro p e s0 m args below meth c ls F hr hlk hnm hsz hP hD hEn hA hl
  obtain ⟨hx, hb, hml, hown, hts⟩ := id F
  have hK := hEn.1
  generalize va_A ([] ++ pl) sz = A at hD hEn hA ⊢
  have hS : va_S A s0.heap s0.heap [] := va_S.rf
  have hl : lv_has ls 9 [(0, .ref h0), (1, .ref f), (2, .ref b), (3, .int (nI at_)), (4, .int wh)] := hl
  have hR : F_MH_small_2 pf pb n at_ wh s = F_MH_small_2 pf pb n at_ wh s := rfl
  have hF : frm (M_MH_small_2 pf) s s := frm_rf
  have ne_172_pf : 172 ≠ pf := nsp_ne (p := 172) rfl n_f (show (5 : Nat) ≠ 0 by decide)
  have ne_172_pb : 172 ≠ pb := nsp_ne (p := 172) rfl n_b (show (5 : Nat) ≠ 1 by decide)
  have ne_225_pf : 225 ≠ pf := nsp_ne (p := 225) rfl n_f (show (5 : Nat) ≠ 0 by decide)
  have ne_225_pb : 225 ≠ pb := nsp_ne (p := 225) rfl n_b (show (5 : Nat) ≠ 1 by decide)
  refine lv_aload_n hx hb dMH_small_0 rfl (lv_at hl 0 rfl) ?_
  refine nw_get (C := "LatticeKeysModel$Hands") (TT := T_MH) (N := 31) hx hb hts (wg_ft i_MH) hown hK hO k_h0 (kn := 225) (ci := 12) (fl := [(3, 172), (3, 181), (3, 226), (3, 291), (3, 299), (3, 308), (3, 317), (3, 326), (3, 334), (3, 342), (3, 350), (3, 359), (3, 368), (3, 369), (3, 370), (3, 371), (3, 372), (3, 373), (3, 374), (3, 375), (3, 376), (3, 377), (3, 378), (0, 0), (0, 0), (0, 0), (0, 0), (0, 0), (0, 0), (0, 0), (0, 0)]) rfl hP rfl 0 (by decide) (hts _ (wg_t kw_1432)) (fun _ h9 => h9) (cd := (3, 172)) rfl dMH_small_1 (fun v21 hv21 => ?_)
  obtain ⟨r21, rfl, kr21⟩ := (show ∃ r : Nat, v21 = .ref r ∧ T r = some 172 from hv21)
  refine mp_v (cx := []) (wr := []) hP hD hS hA [] [] rfl rfl rfl (by decide) (va_runV (As := []) (rest := []) F (N_MS_shake l g _ T s pl hO hU r21 kr21) (cwV 0 hts (wg_app (wg_c kw_1718 (wg_c kw_1661 (wg_c kw_1662 (wg_c kw_10 wg_n)))) kw_1663) rfl rfl rfl (by decide +kernel) ⟨by decide, by decide⟩) (pn_W "LatticeKeysModel$Sponge" (en_ok g) (ci := 9) (kn := 172) (fl := [(3, 173), (3, 174), (3, 175), (3, 176), (3, 177), (0, 0), (0, 0), (0, 0)]) hK hO kr21 rfl hP hD hS hA hEn [] rfl rfl rfl) rfl rfl hl.1 rfl (lv_room (Nat.le_of_ble_eq_true rfl)) dMH_small_4 ⟨by omega, by omega⟩) (fun  u21 H locs hu21 hP hD hS => ?_)
  obtain ⟨s21, pl⟩ := u21
  obtain ⟨⟨eq21, hFc21, ⟨x21, hx_21, hb_21⟩, ⟨x22, hx_22, hb_22⟩, -⟩, hO⟩ := hu21
  have hO : okn g T s21 pl := hO
  have hP : va_P g.1 vcl ([] ++ pl) _ := hP
  have hD : va_D _ ([] ++ pl) := hD
  have hFc21 : frm (M_MS_shake) s s21 := hFc21
  have hb_21 : x21 = 0 := hb_21
  have hb_22 : x22 = 136 := hb_22
  replace hR := bnd_step hR eq21
  first | rw [bnd_step rfl eq21] at hE | replace hE := bndP_step hE eq21
  have hF := frm_tr hF hFc21 (fun k hk => by unfold M_MS_shake at hk; unfold M_MH_small_2; omega)
  have hf21 : s21.1 225 23 = nI 2 := fc_F e_c0 hFc21 (by unfold M_MS_shake; omega)
  have hf22 : s21.1 225 24 = nI 8 := fc_F e_c1 hFc21 (by unfold M_MS_shake; omega)
  have hf23 : s21.1 225 25 = nI 7 := fc_F e_c2 hFc21 (by unfold M_MS_shake; omega)
  have hf24 : s21.1 225 26 = nI 2 := fc_F e_c3 hFc21 (by unfold M_MS_shake; omega)
  have hf25 : s21.1 225 27 = nI 524288 := fc_F e_c4 hFc21 (by unfold M_MS_shake; omega)
  have hf26 : s21.1 225 28 = nI 261888 := fc_F e_c5 hFc21 (by unfold M_MS_shake; omega)
  have hf27 : s21.1 225 29 = nI 120 := fc_F e_c6 hFc21 (by unfold M_MS_shake; omega)
  have hf28 : s21.1 225 30 = nI 64 := fc_F e_c7 hFc21 (by unfold M_MS_shake; omega)
  refine W.widen (k := 0) (n := 0) (by omega) (by omega) ?_
  refine lv_aload_n hx hb dMH_small_7 rfl (lv_at hl 0 rfl) ?_
  refine nw_get (C := "LatticeKeysModel$Hands") (TT := T_MH) (N := 31) hx hb hts (wg_ft i_MH) hown hK hO k_h0 (kn := 225) (ci := 12) (fl := [(3, 172), (3, 181), (3, 226), (3, 291), (3, 299), (3, 308), (3, 317), (3, 326), (3, 334), (3, 342), (3, 350), (3, 359), (3, 368), (3, 369), (3, 370), (3, 371), (3, 372), (3, 373), (3, 374), (3, 375), (3, 376), (3, 377), (3, 378), (0, 0), (0, 0), (0, 0), (0, 0), (0, 0), (0, 0), (0, 0), (0, 0)]) rfl hP rfl 0 (by decide) (hts _ (wg_t kw_1432)) (fun _ h9 => h9) (cd := (3, 172)) rfl dMH_small_8 (fun v22 hv22 => ?_)
  obtain ⟨r22, rfl, kr22⟩ := (show ∃ r : Nat, v22 = .ref r ∧ T r = some 172 from hv22)
  refine lv_aload_n hx hb dMH_small_11 rfl (lv_at hl 2 rfl) ?_
  refine lv_iload_n hx hb dMH_small_12 rfl (lv_at hl 3 rfl) ?_
  refine lv_bipush (v := nI 64) hx hb dMH_small_13 (by decide) ?_
  refine mp_v (cx := []) (wr := []) hP hD hS hA [] [] rfl rfl rfl (by decide) (va_runV (As := [.ref b, .int (nI at_), .int (nI 64)]) (rest := []) F (N_MS_puts l g _ T s21 pl hO hU r22 b pb n at_ 64 x21 x22 kr22 k_b n_b hx_21 hx_22 (by omega) (by omega) (by omega) (by omega)) (cwV 3 hts (wg_app (wg_c kw_1719 (wg_c kw_1612 (wg_c kw_1613 (wg_c kw_10 wg_n)))) kw_1614) rfl rfl rfl (by decide +kernel) ⟨by decide, by decide⟩) (pn_W "LatticeKeysModel$Sponge" (en_ok g) (ci := 9) (kn := 172) (fl := [(3, 173), (3, 174), (3, 175), (3, 176), (3, 177), (0, 0), (0, 0), (0, 0)]) hK hO kr22 rfl hP hD hS hA hEn [] rfl rfl rfl) rfl rfl hl.1 rfl (lv_room (Nat.le_of_ble_eq_true rfl)) dMH_small_15 ⟨by omega, by omega⟩) (fun  u22 H locs hu22 hP hD hS => ?_)
  obtain ⟨s22, pl⟩ := u22
  obtain ⟨⟨eq22, hFc22, ⟨x24, hx_24, hb_24⟩, ⟨x25, hx_25, hb_25⟩, -⟩, hO⟩ := hu22
  have hO : okn g T s22 pl := hO
  have hP : va_P g.1 vcl ([] ++ pl) _ := hP
  have hD : va_D _ ([] ++ pl) := hD
  have hFc22 : frm (M_MS_puts) s21 s22 := hFc22
  have hb_24 : x24 < x22 := hb_24
  have hb_25 : x25 = x22 := hb_25
  replace hR := bnd_step hR eq22
  first | rw [bnd_step rfl eq22] at hE | replace hE := bndP_step hE eq22
  have hF := frm_tr hF hFc22 (fun k hk => by unfold M_MS_puts at hk; unfold M_MH_small_2; omega)
  have hf29 : s22.1 225 23 = nI 2 := fc_F hf21 hFc22 (by unfold M_MS_puts; omega)
  have hf30 : s22.1 225 24 = nI 8 := fc_F hf22 hFc22 (by unfold M_MS_puts; omega)
  have hf31 : s22.1 225 25 = nI 7 := fc_F hf23 hFc22 (by unfold M_MS_puts; omega)
  have hf32 : s22.1 225 26 = nI 2 := fc_F hf24 hFc22 (by unfold M_MS_puts; omega)
  have hf33 : s22.1 225 27 = nI 524288 := fc_F hf25 hFc22 (by unfold M_MS_puts; omega)
  have hf34 : s22.1 225 28 = nI 261888 := fc_F hf26 hFc22 (by unfold M_MS_puts; omega)
  have hf35 : s22.1 225 29 = nI 120 := fc_F hf27 hFc22 (by unfold M_MS_puts; omega)
  have hf36 : s22.1 225 30 = nI 64 := fc_F hf28 hFc22 (by unfold M_MS_puts; omega)
  refine W.widen (k := 0) (n := 0) (by omega) (by omega) ?_
  refine lv_aload_n hx hb dMH_small_18 rfl (lv_at hl 0 rfl) ?_
  refine nw_get (C := "LatticeKeysModel$Hands") (TT := T_MH) (N := 31) hx hb hts (wg_ft i_MH) hown hK hO k_h0 (kn := 225) (ci := 12) (fl := [(3, 172), (3, 181), (3, 226), (3, 291), (3, 299), (3, 308), (3, 317), (3, 326), (3, 334), (3, 342), (3, 350), (3, 359), (3, 368), (3, 369), (3, 370), (3, 371), (3, 372), (3, 373), (3, 374), (3, 375), (3, 376), (3, 377), (3, 378), (0, 0), (0, 0), (0, 0), (0, 0), (0, 0), (0, 0), (0, 0), (0, 0)]) rfl hP rfl 0 (by decide) (hts _ (wg_t kw_1432)) (fun _ h9 => h9) (cd := (3, 172)) rfl dMH_small_19 (fun v23 hv23 => ?_)
  obtain ⟨r23, rfl, kr23⟩ := (show ∃ r : Nat, v23 = .ref r ∧ T r = some 172 from hv23)
  refine lv_iload hx hb dMH_small_22 (lv_at hl 4 rfl) ?_
  refine mp_v (cx := []) (wr := []) hP hD hS hA [] [] rfl rfl rfl (by decide) (va_runV (As := [.int wh]) (rest := []) F (N_MS_put l g _ T s22 pl hO hU r23 wh x24 x25 kr23 hx_24 hx_25 (by omega) (by omega)) (cwV 1 hts (wg_app (wg_c kw_1720 (wg_c kw_1616 (wg_c kw_1617 (wg_c kw_10 wg_n)))) kw_1618) rfl rfl rfl (by decide +kernel) ⟨by decide, by decide⟩) (pn_W "LatticeKeysModel$Sponge" (en_ok g) (ci := 9) (kn := 172) (fl := [(3, 173), (3, 174), (3, 175), (3, 176), (3, 177), (0, 0), (0, 0), (0, 0)]) hK hO kr23 rfl hP hD hS hA hEn [] rfl rfl rfl) rfl rfl hl.1 rfl (lv_room (Nat.le_of_ble_eq_true rfl)) dMH_small_24 ⟨by omega, by omega⟩) (fun  u23 H locs hu23 hP hD hS => ?_)
  obtain ⟨s23, pl⟩ := u23
  obtain ⟨⟨eq23, hFc23, ⟨x27, hx_27, hb_27⟩, ⟨x28, hx_28, hb_28⟩, -⟩, hO⟩ := hu23
  have hO : okn g T s23 pl := hO
  have hP : va_P g.1 vcl ([] ++ pl) _ := hP
  have hD : va_D _ ([] ++ pl) := hD
  have hFc23 : frm (M_MS_put) s22 s23 := hFc23
  have hb_27 : x27 < x25 := hb_27
  have hb_28 : x28 = x25 := hb_28
  replace hR := bnd_step hR eq23
  first | rw [bnd_step rfl eq23] at hE | replace hE := bndP_step hE eq23
  have hF := frm_tr hF hFc23 (fun k hk => by unfold M_MS_put at hk; unfold M_MH_small_2; omega)
  have hf37 : s23.1 225 23 = nI 2 := fc_F hf29 hFc23 (by unfold M_MS_put; omega)
  have hf38 : s23.1 225 24 = nI 8 := fc_F hf30 hFc23 (by unfold M_MS_put; omega)
  have hf39 : s23.1 225 25 = nI 7 := fc_F hf31 hFc23 (by unfold M_MS_put; omega)
  have hf40 : s23.1 225 26 = nI 2 := fc_F hf32 hFc23 (by unfold M_MS_put; omega)
  have hf41 : s23.1 225 27 = nI 524288 := fc_F hf33 hFc23 (by unfold M_MS_put; omega)
  have hf42 : s23.1 225 28 = nI 261888 := fc_F hf34 hFc23 (by unfold M_MS_put; omega)
  have hf43 : s23.1 225 29 = nI 120 := fc_F hf35 hFc23 (by unfold M_MS_put; omega)
  have hf44 : s23.1 225 30 = nI 64 := fc_F hf36 hFc23 (by unfold M_MS_put; omega)
  refine W.widen (k := 0) (n := 0) (by omega) (by omega) ?_
  refine lv_aload_n hx hb dMH_small_27 rfl (lv_at hl 0 rfl) ?_
  refine nw_get (C := "LatticeKeysModel$Hands") (TT := T_MH) (N := 31) hx hb hts (wg_ft i_MH) hown hK hO k_h0 (kn := 225) (ci := 12) (fl := [(3, 172), (3, 181), (3, 226), (3, 291), (3, 299), (3, 308), (3, 317), (3, 326), (3, 334), (3, 342), (3, 350), (3, 359), (3, 368), (3, 369), (3, 370), (3, 371), (3, 372), (3, 373), (3, 374), (3, 375), (3, 376), (3, 377), (3, 378), (0, 0), (0, 0), (0, 0), (0, 0), (0, 0), (0, 0), (0, 0), (0, 0)]) rfl hP rfl 0 (by decide) (hts _ (wg_t kw_1432)) (fun _ h9 => h9) (cd := (3, 172)) rfl dMH_small_28 (fun v24 hv24 => ?_)
  obtain ⟨r24, rfl, kr24⟩ := (show ∃ r : Nat, v24 = .ref r ∧ T r = some 172 from hv24)
  refine lv_iload hx hb dMH_small_31 (lv_at hl 4 rfl) ?_
  refine lv_bipush (v := nI 8) hx hb dMH_small_33 (by decide) ?_
  refine lv_ishr hx hb dMH_small_35 ?_
  refine mp_v (cx := []) (wr := []) hP hD hS hA [] [] rfl rfl rfl (by decide) (va_runV (As := [.int ((wh >>> ((nI 8) &&& 31)))]) (rest := []) F (N_MS_put l g _ T s23 pl hO hU r24 (wh >>> ((nI 8) &&& 31)) x27 x28 kr24 hx_27 hx_28 (by omega) (by omega)) (cwV 1 hts (wg_app (wg_c kw_1720 (wg_c kw_1616 (wg_c kw_1617 (wg_c kw_10 wg_n)))) kw_1618) rfl rfl rfl (by decide +kernel) ⟨by decide, by decide⟩) (pn_W "LatticeKeysModel$Sponge" (en_ok g) (ci := 9) (kn := 172) (fl := [(3, 173), (3, 174), (3, 175), (3, 176), (3, 177), (0, 0), (0, 0), (0, 0)]) hK hO kr24 rfl hP hD hS hA hEn [] rfl rfl rfl) rfl rfl hl.1 rfl (lv_room (Nat.le_of_ble_eq_true rfl)) dMH_small_36 ⟨by omega, by omega⟩) (fun  u24 H locs hu24 hP hD hS => ?_)
  obtain ⟨s24, pl⟩ := u24
  obtain ⟨⟨eq24, hFc24, ⟨x30, hx_30, hb_30⟩, ⟨x31, hx_31, hb_31⟩, -⟩, hO⟩ := hu24
  have hO : okn g T s24 pl := hO
  have hP : va_P g.1 vcl ([] ++ pl) _ := hP
  have hD : va_D _ ([] ++ pl) := hD
  have hFc24 : frm (M_MS_put) s23 s24 := hFc24
  have hb_30 : x30 < x28 := hb_30
  have hb_31 : x31 = x28 := hb_31
  replace hR := bnd_step hR eq24
  first | rw [bnd_step rfl eq24] at hE | replace hE := bndP_step hE eq24
  have hF := frm_tr hF hFc24 (fun k hk => by unfold M_MS_put at hk; unfold M_MH_small_2; omega)
  have hf45 : s24.1 225 23 = nI 2 := fc_F hf37 hFc24 (by unfold M_MS_put; omega)
  have hf46 : s24.1 225 24 = nI 8 := fc_F hf38 hFc24 (by unfold M_MS_put; omega)
  have hf47 : s24.1 225 25 = nI 7 := fc_F hf39 hFc24 (by unfold M_MS_put; omega)
  have hf48 : s24.1 225 26 = nI 2 := fc_F hf40 hFc24 (by unfold M_MS_put; omega)
  have hf49 : s24.1 225 27 = nI 524288 := fc_F hf41 hFc24 (by unfold M_MS_put; omega)
  have hf50 : s24.1 225 28 = nI 261888 := fc_F hf42 hFc24 (by unfold M_MS_put; omega)
  have hf51 : s24.1 225 29 = nI 120 := fc_F hf43 hFc24 (by unfold M_MS_put; omega)
  have hf52 : s24.1 225 30 = nI 64 := fc_F hf44 hFc24 (by unfold M_MS_put; omega)
  refine W.widen (k := 0) (n := 0) (by omega) (by omega) ?_
  refine lv_aload_n hx hb dMH_small_39 rfl (lv_at hl 0 rfl) ?_
  refine nw_get (C := "LatticeKeysModel$Hands") (TT := T_MH) (N := 31) hx hb hts (wg_ft i_MH) hown hK hO k_h0 (kn := 225) (ci := 12) (fl := [(3, 172), (3, 181), (3, 226), (3, 291), (3, 299), (3, 308), (3, 317), (3, 326), (3, 334), (3, 342), (3, 350), (3, 359), (3, 368), (3, 369), (3, 370), (3, 371), (3, 372), (3, 373), (3, 374), (3, 375), (3, 376), (3, 377), (3, 378), (0, 0), (0, 0), (0, 0), (0, 0), (0, 0), (0, 0), (0, 0), (0, 0)]) rfl hP rfl 0 (by decide) (hts _ (wg_t kw_1432)) (fun _ h9 => h9) (cd := (3, 172)) rfl dMH_small_40 (fun v25 hv25 => ?_)
  obtain ⟨r25, rfl, kr25⟩ := (show ∃ r : Nat, v25 = .ref r ∧ T r = some 172 from hv25)
  refine mp_v (cx := []) (wr := []) hP hD hS hA [] [] rfl rfl rfl (by decide) (va_runV (As := []) (rest := []) F (N_MS_end l g _ T s24 pl hO hU r25 x30 x31 kr25 hx_30 hx_31 (by omega) (by omega)) (cwV 0 hts (wg_app (wg_c kw_1721 (wg_c kw_1634 (wg_c kw_1635 (wg_c kw_10 wg_n)))) kw_1636) rfl rfl rfl (by decide +kernel) ⟨by decide, by decide⟩) (pn_W "LatticeKeysModel$Sponge" (en_ok g) (ci := 9) (kn := 172) (fl := [(3, 173), (3, 174), (3, 175), (3, 176), (3, 177), (0, 0), (0, 0), (0, 0)]) hK hO kr25 rfl hP hD hS hA hEn [] rfl rfl rfl) rfl rfl hl.1 rfl (lv_room (Nat.le_of_ble_eq_true rfl)) dMH_small_43 ⟨by omega, by omega⟩) (fun  u25 H locs hu25 hP hD hS => ?_)
  obtain ⟨s25, pl⟩ := u25
  obtain ⟨⟨eq25, hFc25, ⟨x33, hx_33, hb_33⟩, ⟨x34, hx_34, hb_34⟩, -⟩, hO⟩ := hu25
  have hO : okn g T s25 pl := hO
  have hP : va_P g.1 vcl ([] ++ pl) _ := hP
  have hD : va_D _ ([] ++ pl) := hD
  have hFc25 : frm (M_MS_end) s24 s25 := hFc25
  have hb_33 : x33 = 0 := hb_33
  have hb_34 : x34 = x31 := hb_34
  replace hR := bnd_step hR eq25
  first | rw [bnd_step rfl eq25] at hE | replace hE := bndP_step hE eq25
  have hF := frm_tr hF hFc25 (fun k hk => by unfold M_MS_end at hk; unfold M_MH_small_2; omega)
  have hf53 : s25.1 225 23 = nI 2 := fc_F hf45 hFc25 (by unfold M_MS_end; omega)
  have hf54 : s25.1 225 24 = nI 8 := fc_F hf46 hFc25 (by unfold M_MS_end; omega)
  have hf55 : s25.1 225 25 = nI 7 := fc_F hf47 hFc25 (by unfold M_MS_end; omega)
  have hf56 : s25.1 225 26 = nI 2 := fc_F hf48 hFc25 (by unfold M_MS_end; omega)
  have hf57 : s25.1 225 27 = nI 524288 := fc_F hf49 hFc25 (by unfold M_MS_end; omega)
  have hf58 : s25.1 225 28 = nI 261888 := fc_F hf50 hFc25 (by unfold M_MS_end; omega)
  have hf59 : s25.1 225 29 = nI 120 := fc_F hf51 hFc25 (by unfold M_MS_end; omega)
  have hf60 : s25.1 225 30 = nI 64 := fc_F hf52 hFc25 (by unfold M_MS_end; omega)
  refine W.widen (k := 0) (n := 0) (by omega) (by omega) ?_
  refine lv_iconst (v := nI 0) hx hb dMH_small_46 (by decide) ?_
  refine lv_istore (lv' := [(5, .int (nI 0)), (0, .ref h0), (1, .ref f), (2, .ref b), (3, .int (nI at_)), (4, .int wh)]) hx hb dMH_small_47 hl (by decide) rfl (fun ls hl => ?_)
  have lp21 : ∀ (n21 : Nat) (nn21 : Nat) (s26 : Sto) (ps21 : Nat) (pl : va_W) (ls : Array Slot) (H : Heap) (locs : List Loc), 0 = 0 → (nn21 ≤ 256) → (ps21 ≤ 136) → frm (M_MH_small_2 pf) s s26 → s26.1 225 23 = nI 2 → s26.1 225 24 = nI 8 → s26.1 225 25 = nI 7 → s26.1 225 26 = nI 2 → s26.1 225 27 = nI 524288 → s26.1 225 28 = nI 261888 → s26.1 225 29 = nI 120 → s26.1 225 30 = nI 64 → s26.1 172 6 = nI ps21 → s26.1 172 5 = nI x34 → E_MH_small_2_L0 pf n21 nn21 s26 → F_MH_small_2 pf pb n at_ wh s = F_MH_small_2_L0 pf n21 nn21 s26 → lv_has ls 9 [(5, .int (nI nn21)), (0, .ref h0), (1, .ref f)] → okn g T s26 pl → va_P g.1 vcl ([] ++ pl) H → va_D A ([] ++ pl) → va_S A s0.heap H locs → W p l e ({ frames := 4, cells := 0, slots := 0, locals := 90 } : Room) s0 m args below meth c H locs 0 0 (MQ below (va_Qv (fun (u : (Sto) × va_W) => (u.1 = F_MH_small_2 pf pb n at_ wh s ∧ frm (M_MH_small_2 pf) s u.1 ∧ True) ∧ okn g T u.1 u.2) (po g.1 vcl A (fun (u : (Sto) × va_W) => [] ++ u.2)) A) args s0 0 0 A) (F0 m 49 ls []) := by
    intro n21
    induction n21 with
    | zero =>
      intro nn21 s26 ps21 pl ls H locs hm21 hi21 hi22 hF hf61 hf62 hf63 hf64 hf65 hf66 hf67 hf68 hf69 hf70 hE hR hl hO hP hD hS
      refine lv_iload hx hb dMH_small_49 (lv_at hl 0 rfl) ?_
      refine lv_sipush (v := nI 256) hx hb dMH_small_51 (by decide) ?_
      refine mi_ge (tgt := 185) hx hb dMH_small_54 (by decide) (by omega) (by omega) (fun h21 => ?_) (fun h21 => absurd h21 (by have h9 : 256 ≤ nn21 := hE.1; omega))
      replace hE := hE.2
      exact mp_vret hx hb hr hlk hP hD hS (s26, pl) ⟨⟨hR.symm, hF, trivial⟩, hO⟩ [] rfl rfl rfl (by omega) (by omega) dMH_small_185
    | succ n21 ih21 =>
      intro nn21 s26 ps21 pl ls H locs hm21 hi21 hi22 hF hf71 hf72 hf73 hf74 hf75 hf76 hf77 hf78 hf79 hf80 hE hR hl hO hP hD hS
      refine lv_iload hx hb dMH_small_49 (lv_at hl 0 rfl) ?_
      refine lv_sipush (v := nI 256) hx hb dMH_small_51 (by decide) ?_
      refine mi_ge (tgt := 185) hx hb dMH_small_54 (by decide) (by omega) (by omega) (fun h22 => ?_) (fun h22 => ?_)
      · replace hR := hR.trans (if_pos h22)
        first | rw [if_pos h22] at hE | rw [E_MH_small_2_L0, if_pos h22] at hE | rw [E_MH_small_2_L1, if_pos h22] at hE | rw [E_MH_small_2_L2, if_pos h22] at hE | rw [E_MH_small_2_L3, if_pos h22] at hE | rw [E_MH_small_2_L4, if_pos h22] at hE | rw [E_MH_small_2_L5, if_pos h22] at hE | rw [E_MH_small_2_L6, if_pos h22] at hE | rw [E_MH_small_2_L7, if_pos h22] at hE | rw [E_MH_small_2_L8, if_pos h22] at hE | replace hE := iteP_pos h22 hE
        exact mp_vret hx hb hr hlk hP hD hS (s26, pl) ⟨⟨hR.symm, hF, trivial⟩, hO⟩ [] rfl rfl rfl (by omega) (by omega) dMH_small_185
      · replace hR := hR.trans (if_neg (Nat.not_le.mpr h22))
        first | rw [if_neg (Nat.not_le.mpr h22)] at hE | rw [E_MH_small_2_L0, if_neg (Nat.not_le.mpr h22)] at hE | rw [E_MH_small_2_L1, if_neg (Nat.not_le.mpr h22)] at hE | rw [E_MH_small_2_L2, if_neg (Nat.not_le.mpr h22)] at hE | rw [E_MH_small_2_L3, if_neg (Nat.not_le.mpr h22)] at hE | rw [E_MH_small_2_L4, if_neg (Nat.not_le.mpr h22)] at hE | rw [E_MH_small_2_L5, if_neg (Nat.not_le.mpr h22)] at hE | rw [E_MH_small_2_L6, if_neg (Nat.not_le.mpr h22)] at hE | rw [E_MH_small_2_L7, if_neg (Nat.not_le.mpr h22)] at hE | rw [E_MH_small_2_L8, if_neg (Nat.not_le.mpr h22)] at hE | replace hE := iteP_neg (Nat.not_le.mpr h22) hE
        refine lv_aload_n hx hb dMH_small_57 rfl (lv_at hl 1 rfl) ?_
        refine nw_get (C := "LatticeKeysModel$Hands") (TT := T_MH) (N := 31) hx hb hts (wg_ft i_MH) hown hK hO k_h0 (kn := 225) (ci := 12) (fl := [(3, 172), (3, 181), (3, 226), (3, 291), (3, 299), (3, 308), (3, 317), (3, 326), (3, 334), (3, 342), (3, 350), (3, 359), (3, 368), (3, 369), (3, 370), (3, 371), (3, 372), (3, 373), (3, 374), (3, 375), (3, 376), (3, 377), (3, 378), (0, 0), (0, 0), (0, 0), (0, 0), (0, 0), (0, 0), (0, 0), (0, 0)]) rfl hP rfl 0 (by decide) (hts _ (wg_t kw_1432)) (fun _ h9 => h9) (cd := (3, 172)) rfl dMH_small_58 (fun v26 hv26 => ?_)
        obtain ⟨r26, rfl, kr26⟩ := (show ∃ r : Nat, v26 = .ref r ∧ T r = some 172 from hv26)
        refine mp_i (cx := []) (wr := []) hP hD hS hA [] [] rfl rfl rfl (by decide) (va_runV (As := []) (rest := []) F (N_MS_next l g _ T s26 pl hO hU r26 ps21 x34 kr26 hf79 hf80 (by omega) (by omega)) (cwV 0 hts (wg_app (wg_c kw_1728 (wg_c kw_1642 (wg_c kw_1643 (wg_c kw_10 wg_n)))) kw_1644) rfl rfl rfl (by decide +kernel) ⟨by decide, by decide⟩) (pn_W "LatticeKeysModel$Sponge" (en_ok g) (ci := 9) (kn := 172) (fl := [(3, 173), (3, 174), (3, 175), (3, 176), (3, 177), (0, 0), (0, 0), (0, 0)]) hK hO kr26 rfl hP hD hS hA hEn [] rfl rfl rfl) rfl rfl hl.1 rfl (lv_room (Nat.le_of_ble_eq_true rfl)) dMH_small_61 ⟨by omega, by omega⟩) (fun r27 u26 H locs hu26 hP hD hS => ?_)
        obtain ⟨q21, pl⟩ := u26
        obtain ⟨⟨eq26, rfl, hFc26, ⟨x38, hx_38, hb_38⟩, ⟨x36, hx_36, hb_36⟩, ⟨x37, hx_37, hb_37⟩, -⟩, hO⟩ := hu26
        have hO : okn g T q21.2 pl := hO
        have hP : va_P g.1 vcl ([] ++ pl) _ := hP
        have hD : va_D _ ([] ++ pl) := hD
        have hFc26 : frm (M_MS_next) s26 q21.2 := hFc26
        have hb_36 : x36 ≤ x34 := hb_36
        have hb_37 : x37 = x34 := hb_37
        have hb_38 : x38 < 256 := hb_38
        replace hR := bnd_step hR eq26
        first | rw [bnd_step rfl eq26] at hE | replace hE := bndP_step hE eq26
        have hF := frm_tr hF hFc26 (fun k hk => by unfold M_MS_next at hk; unfold M_MH_small_2; omega)
        have hf81 : q21.2.1 225 23 = nI 2 := fc_F hf71 hFc26 (by unfold M_MS_next; omega)
        have hf82 : q21.2.1 225 24 = nI 8 := fc_F hf72 hFc26 (by unfold M_MS_next; omega)
        have hf83 : q21.2.1 225 25 = nI 7 := fc_F hf73 hFc26 (by unfold M_MS_next; omega)
        have hf84 : q21.2.1 225 26 = nI 2 := fc_F hf74 hFc26 (by unfold M_MS_next; omega)
        have hf85 : q21.2.1 225 27 = nI 524288 := fc_F hf75 hFc26 (by unfold M_MS_next; omega)
        have hf86 : q21.2.1 225 28 = nI 261888 := fc_F hf76 hFc26 (by unfold M_MS_next; omega)
        have hf87 : q21.2.1 225 29 = nI 120 := fc_F hf77 hFc26 (by unfold M_MS_next; omega)
        have hf88 : q21.2.1 225 30 = nI 64 := fc_F hf78 hFc26 (by unfold M_MS_next; omega)
        obtain ⟨z21, ez21, hz21, hz22⟩ := cl_of (b := 2147483648) hx_38 (by omega) (by decide)
        replace hR := bnd_step hR ez21
        first | rw [bnd_step rfl ez21] at hE | replace hE := bndP_step hE ez21
        refine mi_as hz21 ?_
        refine W.widen (k := 0) (n := 0) (by omega) (by omega) ?_
        refine lv_istore (lv' := [(6, .int (nI z21)), (5, .int (nI nn21)), (0, .ref h0), (1, .ref f)]) hx hb dMH_small_64 hl (by decide) rfl (fun ls hl => ?_)
        refine lv_iconst (v := nI 0) hx hb dMH_small_66 (by decide) ?_
        refine lv_istore (lv' := [(7, .int (nI 0)), (6, .int (nI z21)), (5, .int (nI nn21)), (0, .ref h0), (1, .ref f)]) hx hb dMH_small_67 hl (by decide) rfl (fun ls hl => ?_)
        refine lv_iload hx hb dMH_small_69 (lv_at hl 0 rfl) ?_
        refine lv_iconst (v := nI 2) hx hb dMH_small_71 (by decide) ?_
        refine mi_ge (tgt := 182) hx hb dMH_small_72 (by decide) (by omega) (by omega) (fun h23 => absurd h23 (by omega)) (fun h23 => ?_)
        refine lv_iload hx hb dMH_small_75 (lv_at hl 2 rfl) ?_
        refine lv_sipush (v := nI 256) hx hb dMH_small_77 (by decide) ?_
        refine mi_ge (tgt := 182) hx hb dMH_small_80 (by decide) (by omega) (by omega) (fun h24 => ?_) (fun h24 => ?_)
        · replace hR := hR.trans (if_pos h24)
          first | rw [if_pos h24] at hE | rw [E_MH_small_2_L0, if_pos h24] at hE | rw [E_MH_small_2_L1, if_pos h24] at hE | rw [E_MH_small_2_L2, if_pos h24] at hE | rw [E_MH_small_2_L3, if_pos h24] at hE | rw [E_MH_small_2_L4, if_pos h24] at hE | rw [E_MH_small_2_L5, if_pos h24] at hE | rw [E_MH_small_2_L6, if_pos h24] at hE | rw [E_MH_small_2_L7, if_pos h24] at hE | rw [E_MH_small_2_L8, if_pos h24] at hE | replace hE := iteP_pos h24 hE
          refine lv_goto (tgt := 49) hx hb dMH_small_182 (by decide) ?_
          exact ih21 nn21 q21.2 x36 pl ls H locs (by omega) (by omega) (by omega) hF hf81 hf82 hf83 hf84 hf85 hf86 hf87 hf88 hx_36 (by have h9 := hx_37; rw [show x37 = x34 by omega] at h9; exact h9) hE hR (lv_sub hl [2, 3, 4] rfl) hO hP hD hS
        · replace hR := hR.trans (if_neg (Nat.not_le.mpr h24))
          first | rw [if_neg (Nat.not_le.mpr h24)] at hE | rw [E_MH_small_2_L0, if_neg (Nat.not_le.mpr h24)] at hE | rw [E_MH_small_2_L1, if_neg (Nat.not_le.mpr h24)] at hE | rw [E_MH_small_2_L2, if_neg (Nat.not_le.mpr h24)] at hE | rw [E_MH_small_2_L3, if_neg (Nat.not_le.mpr h24)] at hE | rw [E_MH_small_2_L4, if_neg (Nat.not_le.mpr h24)] at hE | rw [E_MH_small_2_L5, if_neg (Nat.not_le.mpr h24)] at hE | rw [E_MH_small_2_L6, if_neg (Nat.not_le.mpr h24)] at hE | rw [E_MH_small_2_L7, if_neg (Nat.not_le.mpr h24)] at hE | rw [E_MH_small_2_L8, if_neg (Nat.not_le.mpr h24)] at hE | replace hE := iteP_neg (Nat.not_le.mpr h24) hE
          refine lv_iload hx hb dMH_small_83 (lv_at hl 0 rfl) ?_
          refine lv_if_ne (tgt := 96) hx hb dMH_small_85 (by decide) (fun h25 => absurd h25 (by decide)) (fun h25 => ?_)
          refine lv_iload hx hb dMH_small_88 (lv_at hl 1 rfl) ?_
          refine lv_bipush (v := nI 16) hx hb dMH_small_90 (by decide) ?_
          refine mi_irem hx hb dMH_small_92 (by omega) (by omega) (by omega) ?_
          refine lv_goto (tgt := 101) hx hb dMH_small_93 (by decide) ?_
          refine lv_istore (lv' := [(8, .int (nI (z21 % 16))), (7, .int (nI 0)), (6, .int (nI z21)), (5, .int (nI nn21)), (0, .ref h0), (1, .ref f)]) hx hb dMH_small_101 hl (by decide) rfl (fun ls hl => ?_)
          refine lv_aload_n hx hb dMH_small_103 rfl (lv_at hl 4 rfl) ?_
          refine nw_get (C := "LatticeKeysModel$Hands") (TT := T_MH) (N := 31) hx hb hts (wg_ft i_MH) hown hK hO k_h0 (kn := 225) (ci := 12) (fl := [(3, 172), (3, 181), (3, 226), (3, 291), (3, 299), (3, 308), (3, 317), (3, 326), (3, 334), (3, 342), (3, 350), (3, 359), (3, 368), (3, 369), (3, 370), (3, 371), (3, 372), (3, 373), (3, 374), (3, 375), (3, 376), (3, 377), (3, 378), (0, 0), (0, 0), (0, 0), (0, 0), (0, 0), (0, 0), (0, 0), (0, 0)]) rfl hP rfl 26 (by decide) (hts _ (wg_t kw_1458)) (fun _ h9 => h9) (cd := (0, 0)) rfl dMH_small_104 (fun v27 hv27 => ?_)
          obtain rfl := (show v27 = .int (q21.2.1 225 26) from hv27)
          obtain ⟨z22, ez22, hz23, hz24⟩ := cl_of (b := 2147483648) hf84 (by omega) (by decide)
          replace hR := bnd_step hR ez22
          first | rw [bnd_step rfl ez22] at hE | replace hE := bndP_step hE ez22
          refine mi_as hz23 ?_
          subst hz24
          refine lv_iconst (v := nI 2) hx hb dMH_small_107 (by decide) ?_
          refine mi_ne (tgt := 121) hx hb dMH_small_108 (by decide) (by omega) (by omega) (fun h26 => absurd h26 (by omega)) (fun h26 => ?_)
          refine lv_iload hx hb dMH_small_111 (lv_at hl 0 rfl) ?_
          refine lv_bipush (v := nI 14) hx hb dMH_small_113 (by decide) ?_
          refine mi_le (tgt := 131) hx hb dMH_small_115 (by decide) (by omega) (by omega) (fun h27 => ?_) (fun h27 => ?_)
          · replace hR := hR.trans (if_pos h27)
            first | rw [if_pos h27] at hE | rw [E_MH_small_2_L0, if_pos h27] at hE | rw [E_MH_small_2_L1, if_pos h27] at hE | rw [E_MH_small_2_L2, if_pos h27] at hE | rw [E_MH_small_2_L3, if_pos h27] at hE | rw [E_MH_small_2_L4, if_pos h27] at hE | rw [E_MH_small_2_L5, if_pos h27] at hE | rw [E_MH_small_2_L6, if_pos h27] at hE | rw [E_MH_small_2_L7, if_pos h27] at hE | rw [E_MH_small_2_L8, if_pos h27] at hE | replace hE := iteP_pos h27 hE
            refine lv_aload_n hx hb dMH_small_131 rfl (lv_at hl 4 rfl) ?_
            refine nw_get (C := "LatticeKeysModel$Hands") (TT := T_MH) (N := 31) hx hb hts (wg_ft i_MH) hown hK hO k_h0 (kn := 225) (ci := 12) (fl := [(3, 172), (3, 181), (3, 226), (3, 291), (3, 299), (3, 308), (3, 317), (3, 326), (3, 334), (3, 342), (3, 350), (3, 359), (3, 368), (3, 369), (3, 370), (3, 371), (3, 372), (3, 373), (3, 374), (3, 375), (3, 376), (3, 377), (3, 378), (0, 0), (0, 0), (0, 0), (0, 0), (0, 0), (0, 0), (0, 0), (0, 0)]) rfl hP rfl 26 (by decide) (hts _ (wg_t kw_1458)) (fun _ h9 => h9) (cd := (0, 0)) rfl dMH_small_132 (fun v28 hv28 => ?_)
            obtain rfl := (show v28 = .int (q21.2.1 225 26) from hv28)
            obtain ⟨z23, ez23, hz25, hz26⟩ := cl_of (b := 2147483648) hf84 (by omega) (by decide)
            replace hR := bnd_step hR ez23
            first | rw [bnd_step rfl ez23] at hE | replace hE := bndP_step hE ez23
            refine mi_as hz25 ?_
            subst hz26
            refine lv_iconst (v := nI 2) hx hb dMH_small_135 (by decide) ?_
            refine mi_ne (tgt := 148) hx hb dMH_small_136 (by decide) (by omega) (by omega) (fun h28 => absurd h28 (by omega)) (fun h28 => ?_)
            refine lv_iconst (v := nI 2) hx hb dMH_small_139 (by decide) ?_
            refine lv_iload hx hb dMH_small_140 (lv_at hl 0 rfl) ?_
            refine lv_iconst (v := nI 5) hx hb dMH_small_142 (by decide) ?_
            refine mi_irem hx hb dMH_small_143 (by omega) (by omega) (by omega) ?_
            refine lv_isub hx hb dMH_small_144 ?_
            refine lv_goto (tgt := 152) hx hb dMH_small_145 (by decide) ?_
            refine mi_eqv (fun z24 ez24 => ?_)
            replace hR := bnd_step hR ez24
            first | rw [bnd_step rfl ez24] at hE | replace hE := bndP_step hE ez24
            refine lv_istore (lv' := [(8, .int z24), (7, .int (nI 0)), (6, .int (nI z21)), (5, .int (nI nn21)), (0, .ref h0), (1, .ref f)]) hx hb dMH_small_152 hl (by decide) rfl (fun ls hl => ?_)
            refine lv_aload_n hx hb dMH_small_154 rfl (lv_at hl 5 rfl) ?_
            refine lv_iload hx hb dMH_small_155 (lv_at hl 3 rfl) ?_
            refine lv_iload hx hb dMH_small_157 (lv_at hl 0 rfl) ?_
            refine lv_if_ge (tgt := 170) hx hb dMH_small_159 (by decide) (fun h29 => ?_) (fun h29 => ?_)
            · replace hR := hR.trans (if_pos h29)
              first | rw [if_pos h29] at hE | rw [E_MH_small_2_L0, if_pos h29] at hE | rw [E_MH_small_2_L1, if_pos h29] at hE | rw [E_MH_small_2_L2, if_pos h29] at hE | rw [E_MH_small_2_L3, if_pos h29] at hE | rw [E_MH_small_2_L4, if_pos h29] at hE | rw [E_MH_small_2_L5, if_pos h29] at hE | rw [E_MH_small_2_L6, if_pos h29] at hE | rw [E_MH_small_2_L7, if_pos h29] at hE | rw [E_MH_small_2_L8, if_pos h29] at hE | replace hE := iteP_pos h29 hE
              refine lv_iload hx hb dMH_small_170 (lv_at hl 0 rfl) ?_
              refine nw_iast hx hb hK hO hU k_f (k := pf) n_f hP hD hS (by omega) (by omega) dMH_small_172 (fun s27 pl H locs es21 hO hP hD hS => ?_)
              replace hR := bnd_step hR es21
              first | rw [bnd_step rfl es21] at hE | replace hE := bndP_step hE es21
              have hF := frm_sI hF es21 (by unfold M_MH_small_2; omega)
              have hf89 : s27.1 225 23 = nI 2 := fc_ne hf81 es21 (by omega)
              have hf90 : s27.1 225 24 = nI 8 := fc_ne hf82 es21 (by omega)
              have hf91 : s27.1 225 25 = nI 7 := fc_ne hf83 es21 (by omega)
              have hf92 : s27.1 225 26 = nI 2 := fc_ne hf84 es21 (by omega)
              have hf93 : s27.1 225 27 = nI 524288 := fc_ne hf85 es21 (by omega)
              have hf94 : s27.1 225 28 = nI 261888 := fc_ne hf86 es21 (by omega)
              have hf95 : s27.1 225 29 = nI 120 := fc_ne hf87 es21 (by omega)
              have hf96 : s27.1 225 30 = nI 64 := fc_ne hf88 es21 (by omega)
              have hf97 : s27.1 172 6 = nI x36 := fc_ne hx_36 es21 (by omega)
              have hf98 : s27.1 172 5 = nI x37 := fc_ne hx_37 es21 (by omega)
              refine mi_iinc (k := 3) (x := nn21) (d := 1) (y := nn21 + 1) (lv' := [(5, .int (nI (nn21 + 1))), (8, .int z24), (7, .int (nI 0)), (6, .int (nI z21)), (0, .ref h0), (1, .ref f)]) hx hb dMH_small_173 hl rfl (by decide) rfl (by decide) rfl (fun ls hl => ?_)
              refine mi_iinc (k := 2) (x := 0) (d := 1) (y := 1) (lv' := [(7, .int (nI 1)), (5, .int (nI (nn21 + 1))), (8, .int z24), (6, .int (nI z21)), (0, .ref h0), (1, .ref f)]) hx hb dMH_small_176 hl rfl (by decide) rfl (by decide) rfl (fun ls hl => ?_)
              refine lv_goto (tgt := 69) hx hb dMH_small_179 (by decide) ?_
              refine lv_iload hx hb dMH_small_69 (lv_at hl 0 rfl) ?_
              refine lv_iconst (v := nI 2) hx hb dMH_small_71 (by decide) ?_
              refine mi_ge (tgt := 182) hx hb dMH_small_72 (by decide) (by omega) (by omega) (fun h30 => absurd h30 (by omega)) (fun h30 => ?_)
              refine lv_iload hx hb dMH_small_75 (lv_at hl 1 rfl) ?_
              refine lv_sipush (v := nI 256) hx hb dMH_small_77 (by decide) ?_
              refine mi_ge (tgt := 182) hx hb dMH_small_80 (by decide) (by omega) (by omega) (fun h31 => ?_) (fun h31 => ?_)
              · replace hR := hR.trans (if_pos h31)
                first | rw [if_pos h31] at hE | rw [E_MH_small_2_L0, if_pos h31] at hE | rw [E_MH_small_2_L1, if_pos h31] at hE | rw [E_MH_small_2_L2, if_pos h31] at hE | rw [E_MH_small_2_L3, if_pos h31] at hE | rw [E_MH_small_2_L4, if_pos h31] at hE | rw [E_MH_small_2_L5, if_pos h31] at hE | rw [E_MH_small_2_L6, if_pos h31] at hE | rw [E_MH_small_2_L7, if_pos h31] at hE | rw [E_MH_small_2_L8, if_pos h31] at hE | replace hE := iteP_pos h31 hE
                refine lv_goto (tgt := 49) hx hb dMH_small_182 (by decide) ?_
                exact ih21 (nn21 + 1) s27 x36 pl ls H locs (by omega) (by omega) (by omega) hF hf89 hf90 hf91 hf92 hf93 hf94 hf95 hf96 hf97 (by have h9 := hf98; rw [show x37 = x34 by omega] at h9; exact h9) hE hR (lv_sub hl [1, 4, 5] rfl) hO hP hD hS
              · replace hR := hR.trans (if_neg (Nat.not_le.mpr h31))
                first | rw [if_neg (Nat.not_le.mpr h31)] at hE | rw [E_MH_small_2_L0, if_neg (Nat.not_le.mpr h31)] at hE | rw [E_MH_small_2_L1, if_neg (Nat.not_le.mpr h31)] at hE | rw [E_MH_small_2_L2, if_neg (Nat.not_le.mpr h31)] at hE | rw [E_MH_small_2_L3, if_neg (Nat.not_le.mpr h31)] at hE | rw [E_MH_small_2_L4, if_neg (Nat.not_le.mpr h31)] at hE | rw [E_MH_small_2_L5, if_neg (Nat.not_le.mpr h31)] at hE | rw [E_MH_small_2_L6, if_neg (Nat.not_le.mpr h31)] at hE | rw [E_MH_small_2_L7, if_neg (Nat.not_le.mpr h31)] at hE | rw [E_MH_small_2_L8, if_neg (Nat.not_le.mpr h31)] at hE | replace hE := iteP_neg (Nat.not_le.mpr h31) hE
                refine lv_iload hx hb dMH_small_83 (lv_at hl 0 rfl) ?_
                refine lv_if_ne (tgt := 96) hx hb dMH_small_85 (by decide) (fun h32 => ?_) (fun h32 => absurd h32 (by decide))
                refine lv_iload hx hb dMH_small_96 (lv_at hl 3 rfl) ?_
                refine lv_bipush (v := nI 16) hx hb dMH_small_98 (by decide) ?_
                refine mi_idiv hx hb dMH_small_100 (by omega) (by omega) (by omega) ?_
                refine lv_istore (lv' := [(8, .int (nI (z21 / 16))), (7, .int (nI 1)), (5, .int (nI (nn21 + 1))), (6, .int (nI z21)), (0, .ref h0), (1, .ref f)]) hx hb dMH_small_101 hl (by decide) rfl (fun ls hl => ?_)
                refine lv_aload_n hx hb dMH_small_103 rfl (lv_at hl 4 rfl) ?_
                refine nw_get (C := "LatticeKeysModel$Hands") (TT := T_MH) (N := 31) hx hb hts (wg_ft i_MH) hown hK hO k_h0 (kn := 225) (ci := 12) (fl := [(3, 172), (3, 181), (3, 226), (3, 291), (3, 299), (3, 308), (3, 317), (3, 326), (3, 334), (3, 342), (3, 350), (3, 359), (3, 368), (3, 369), (3, 370), (3, 371), (3, 372), (3, 373), (3, 374), (3, 375), (3, 376), (3, 377), (3, 378), (0, 0), (0, 0), (0, 0), (0, 0), (0, 0), (0, 0), (0, 0), (0, 0)]) rfl hP rfl 26 (by decide) (hts _ (wg_t kw_1458)) (fun _ h9 => h9) (cd := (0, 0)) rfl dMH_small_104 (fun v29 hv29 => ?_)
                obtain rfl := (show v29 = .int (s27.1 225 26) from hv29)
                obtain ⟨z25, ez25, hz27, hz28⟩ := cl_of (b := 2147483648) hf92 (by omega) (by decide)
                replace hR := bnd_step hR ez25
                first | rw [bnd_step rfl ez25] at hE | replace hE := bndP_step hE ez25
                refine mi_as hz27 ?_
                subst hz28
                refine lv_iconst (v := nI 2) hx hb dMH_small_107 (by decide) ?_
                refine mi_ne (tgt := 121) hx hb dMH_small_108 (by decide) (by omega) (by omega) (fun h33 => absurd h33 (by omega)) (fun h33 => ?_)
                refine lv_iload hx hb dMH_small_111 (lv_at hl 0 rfl) ?_
                refine lv_bipush (v := nI 14) hx hb dMH_small_113 (by decide) ?_
                refine mi_le (tgt := 131) hx hb dMH_small_115 (by decide) (by omega) (by omega) (fun h34 => ?_) (fun h34 => ?_)
                · replace hR := hR.trans (if_pos h34)
                  first | rw [if_pos h34] at hE | rw [E_MH_small_2_L0, if_pos h34] at hE | rw [E_MH_small_2_L1, if_pos h34] at hE | rw [E_MH_small_2_L2, if_pos h34] at hE | rw [E_MH_small_2_L3, if_pos h34] at hE | rw [E_MH_small_2_L4, if_pos h34] at hE | rw [E_MH_small_2_L5, if_pos h34] at hE | rw [E_MH_small_2_L6, if_pos h34] at hE | rw [E_MH_small_2_L7, if_pos h34] at hE | rw [E_MH_small_2_L8, if_pos h34] at hE | replace hE := iteP_pos h34 hE
                  refine lv_aload_n hx hb dMH_small_131 rfl (lv_at hl 4 rfl) ?_
                  refine nw_get (C := "LatticeKeysModel$Hands") (TT := T_MH) (N := 31) hx hb hts (wg_ft i_MH) hown hK hO k_h0 (kn := 225) (ci := 12) (fl := [(3, 172), (3, 181), (3, 226), (3, 291), (3, 299), (3, 308), (3, 317), (3, 326), (3, 334), (3, 342), (3, 350), (3, 359), (3, 368), (3, 369), (3, 370), (3, 371), (3, 372), (3, 373), (3, 374), (3, 375), (3, 376), (3, 377), (3, 378), (0, 0), (0, 0), (0, 0), (0, 0), (0, 0), (0, 0), (0, 0), (0, 0)]) rfl hP rfl 26 (by decide) (hts _ (wg_t kw_1458)) (fun _ h9 => h9) (cd := (0, 0)) rfl dMH_small_132 (fun v30 hv30 => ?_)
                  obtain rfl := (show v30 = .int (s27.1 225 26) from hv30)
                  obtain ⟨z26, ez26, hz29, hz30⟩ := cl_of (b := 2147483648) hf92 (by omega) (by decide)
                  replace hR := bnd_step hR ez26
                  first | rw [bnd_step rfl ez26] at hE | replace hE := bndP_step hE ez26
                  refine mi_as hz29 ?_
                  subst hz30
                  refine lv_iconst (v := nI 2) hx hb dMH_small_135 (by decide) ?_
                  refine mi_ne (tgt := 148) hx hb dMH_small_136 (by decide) (by omega) (by omega) (fun h35 => absurd h35 (by omega)) (fun h35 => ?_)
                  refine lv_iconst (v := nI 2) hx hb dMH_small_139 (by decide) ?_
                  refine lv_iload hx hb dMH_small_140 (lv_at hl 0 rfl) ?_
                  refine lv_iconst (v := nI 5) hx hb dMH_small_142 (by decide) ?_
                  refine mi_irem hx hb dMH_small_143 (by omega) (by omega) (by omega) ?_
                  refine lv_isub hx hb dMH_small_144 ?_
                  refine lv_goto (tgt := 152) hx hb dMH_small_145 (by decide) ?_
                  refine mi_eqv (fun z27 ez27 => ?_)
                  replace hR := bnd_step hR ez27
                  first | rw [bnd_step rfl ez27] at hE | replace hE := bndP_step hE ez27
                  refine lv_istore (lv' := [(8, .int z27), (7, .int (nI 1)), (5, .int (nI (nn21 + 1))), (6, .int (nI z21)), (0, .ref h0), (1, .ref f)]) hx hb dMH_small_152 hl (by decide) rfl (fun ls hl => ?_)
                  refine lv_aload_n hx hb dMH_small_154 rfl (lv_at hl 5 rfl) ?_
                  refine lv_iload hx hb dMH_small_155 (lv_at hl 2 rfl) ?_
                  refine lv_iload hx hb dMH_small_157 (lv_at hl 0 rfl) ?_
                  refine lv_if_ge (tgt := 170) hx hb dMH_small_159 (by decide) (fun h36 => ?_) (fun h36 => ?_)
                  · replace hR := hR.trans (if_pos h36)
                    first | rw [if_pos h36] at hE | rw [E_MH_small_2_L0, if_pos h36] at hE | rw [E_MH_small_2_L1, if_pos h36] at hE | rw [E_MH_small_2_L2, if_pos h36] at hE | rw [E_MH_small_2_L3, if_pos h36] at hE | rw [E_MH_small_2_L4, if_pos h36] at hE | rw [E_MH_small_2_L5, if_pos h36] at hE | rw [E_MH_small_2_L6, if_pos h36] at hE | rw [E_MH_small_2_L7, if_pos h36] at hE | rw [E_MH_small_2_L8, if_pos h36] at hE | replace hE := iteP_pos h36 hE
                    refine lv_iload hx hb dMH_small_170 (lv_at hl 0 rfl) ?_
                    refine nw_iast hx hb hK hO hU k_f (k := pf) n_f hP hD hS (by omega) (by omega) dMH_small_172 (fun s28 pl H locs es22 hO hP hD hS => ?_)
                    replace hR := bnd_step hR es22
                    first | rw [bnd_step rfl es22] at hE | replace hE := bndP_step hE es22
                    have hF := frm_sI hF es22 (by unfold M_MH_small_2; omega)
                    have hf99 : s28.1 225 23 = nI 2 := fc_ne hf89 es22 (by omega)
                    have hf100 : s28.1 225 24 = nI 8 := fc_ne hf90 es22 (by omega)
                    have hf101 : s28.1 225 25 = nI 7 := fc_ne hf91 es22 (by omega)
                    have hf102 : s28.1 225 26 = nI 2 := fc_ne hf92 es22 (by omega)
                    have hf103 : s28.1 225 27 = nI 524288 := fc_ne hf93 es22 (by omega)
                    have hf104 : s28.1 225 28 = nI 261888 := fc_ne hf94 es22 (by omega)
                    have hf105 : s28.1 225 29 = nI 120 := fc_ne hf95 es22 (by omega)
                    have hf106 : s28.1 225 30 = nI 64 := fc_ne hf96 es22 (by omega)
                    have hf107 : s28.1 172 6 = nI x36 := fc_ne hf97 es22 (by omega)
                    have hf108 : s28.1 172 5 = nI x37 := fc_ne hf98 es22 (by omega)
                    refine mi_iinc (k := 2) (x := nn21 + 1) (d := 1) (y := nn21 + 1 + 1) (lv' := [(5, .int (nI (nn21 + 1 + 1))), (8, .int z27), (7, .int (nI 1)), (6, .int (nI z21)), (0, .ref h0), (1, .ref f)]) hx hb dMH_small_173 hl rfl (by decide) rfl (by decide) rfl (fun ls hl => ?_)
                    refine mi_iinc (k := 2) (x := 1) (d := 1) (y := 2) (lv' := [(7, .int (nI 2)), (5, .int (nI (nn21 + 1 + 1))), (8, .int z27), (6, .int (nI z21)), (0, .ref h0), (1, .ref f)]) hx hb dMH_small_176 hl rfl (by decide) rfl (by decide) rfl (fun ls hl => ?_)
                    refine lv_goto (tgt := 69) hx hb dMH_small_179 (by decide) ?_
                    refine lv_iload hx hb dMH_small_69 (lv_at hl 0 rfl) ?_
                    refine lv_iconst (v := nI 2) hx hb dMH_small_71 (by decide) ?_
                    refine mi_ge (tgt := 182) hx hb dMH_small_72 (by decide) (by omega) (by omega) (fun h37 => ?_) (fun h37 => absurd h37 (by omega))
                    refine lv_goto (tgt := 49) hx hb dMH_small_182 (by decide) ?_
                    exact ih21 (nn21 + 1 + 1) s28 x36 pl ls H locs (by omega) (by omega) (by omega) hF hf99 hf100 hf101 hf102 hf103 hf104 hf105 hf106 hf107 (by have h9 := hf108; rw [show x37 = x34 by omega] at h9; exact h9) hE hR (lv_sub hl [1, 4, 5] rfl) hO hP hD hS
                  · replace hR := hR.trans (if_neg h36)
                    first | rw [if_neg h36] at hE | rw [E_MH_small_2_L0, if_neg h36] at hE | rw [E_MH_small_2_L1, if_neg h36] at hE | rw [E_MH_small_2_L2, if_neg h36] at hE | rw [E_MH_small_2_L3, if_neg h36] at hE | rw [E_MH_small_2_L4, if_neg h36] at hE | rw [E_MH_small_2_L5, if_neg h36] at hE | rw [E_MH_small_2_L6, if_neg h36] at hE | rw [E_MH_small_2_L7, if_neg h36] at hE | rw [E_MH_small_2_L8, if_neg h36] at hE | replace hE := iteP_neg h36 hE
                    refine lv_iload hx hb dMH_small_162 (lv_at hl 0 rfl) ?_
                    refine lv_ldc (v := 8380417) hx hb hown (hts _ (wg_t kw_1429)) dMH_small_164 ?_
                    refine mi_as (show (8380417 : Int32) = nI 8380417 by decide) ?_
                    refine lv_iadd hx hb dMH_small_166 ?_
                    refine lv_goto (tgt := 172) hx hb dMH_small_167 (by decide) ?_
                    refine nw_iast hx hb hK hO hU k_f (k := pf) n_f hP hD hS (by omega) (by omega) dMH_small_172 (fun s29 pl H locs es23 hO hP hD hS => ?_)
                    replace hR := bnd_step hR es23
                    first | rw [bnd_step rfl es23] at hE | replace hE := bndP_step hE es23
                    have hF := frm_sI hF es23 (by unfold M_MH_small_2; omega)
                    have hf109 : s29.1 225 23 = nI 2 := fc_ne hf89 es23 (by omega)
                    have hf110 : s29.1 225 24 = nI 8 := fc_ne hf90 es23 (by omega)
                    have hf111 : s29.1 225 25 = nI 7 := fc_ne hf91 es23 (by omega)
                    have hf112 : s29.1 225 26 = nI 2 := fc_ne hf92 es23 (by omega)
                    have hf113 : s29.1 225 27 = nI 524288 := fc_ne hf93 es23 (by omega)
                    have hf114 : s29.1 225 28 = nI 261888 := fc_ne hf94 es23 (by omega)
                    have hf115 : s29.1 225 29 = nI 120 := fc_ne hf95 es23 (by omega)
                    have hf116 : s29.1 225 30 = nI 64 := fc_ne hf96 es23 (by omega)
                    have hf117 : s29.1 172 6 = nI x36 := fc_ne hf97 es23 (by omega)
                    have hf118 : s29.1 172 5 = nI x37 := fc_ne hf98 es23 (by omega)
                    refine mi_iinc (k := 2) (x := nn21 + 1) (d := 1) (y := nn21 + 1 + 1) (lv' := [(5, .int (nI (nn21 + 1 + 1))), (8, .int z27), (7, .int (nI 1)), (6, .int (nI z21)), (0, .ref h0), (1, .ref f)]) hx hb dMH_small_173 hl rfl (by decide) rfl (by decide) rfl (fun ls hl => ?_)
                    refine mi_iinc (k := 2) (x := 1) (d := 1) (y := 2) (lv' := [(7, .int (nI 2)), (5, .int (nI (nn21 + 1 + 1))), (8, .int z27), (6, .int (nI z21)), (0, .ref h0), (1, .ref f)]) hx hb dMH_small_176 hl rfl (by decide) rfl (by decide) rfl (fun ls hl => ?_)
                    refine lv_goto (tgt := 69) hx hb dMH_small_179 (by decide) ?_
                    refine lv_iload hx hb dMH_small_69 (lv_at hl 0 rfl) ?_
                    refine lv_iconst (v := nI 2) hx hb dMH_small_71 (by decide) ?_
                    refine mi_ge (tgt := 182) hx hb dMH_small_72 (by decide) (by omega) (by omega) (fun h38 => ?_) (fun h38 => absurd h38 (by omega))
                    refine lv_goto (tgt := 49) hx hb dMH_small_182 (by decide) ?_
                    exact ih21 (nn21 + 1 + 1) s29 x36 pl ls H locs (by omega) (by omega) (by omega) hF hf109 hf110 hf111 hf112 hf113 hf114 hf115 hf116 hf117 (by have h9 := hf118; rw [show x37 = x34 by omega] at h9; exact h9) hE hR (lv_sub hl [1, 4, 5] rfl) hO hP hD hS
                · replace hR := hR.trans (if_neg (Nat.not_le.mpr h34))
                  first | rw [if_neg (Nat.not_le.mpr h34)] at hE | rw [E_MH_small_2_L0, if_neg (Nat.not_le.mpr h34)] at hE | rw [E_MH_small_2_L1, if_neg (Nat.not_le.mpr h34)] at hE | rw [E_MH_small_2_L2, if_neg (Nat.not_le.mpr h34)] at hE | rw [E_MH_small_2_L3, if_neg (Nat.not_le.mpr h34)] at hE | rw [E_MH_small_2_L4, if_neg (Nat.not_le.mpr h34)] at hE | rw [E_MH_small_2_L5, if_neg (Nat.not_le.mpr h34)] at hE | rw [E_MH_small_2_L6, if_neg (Nat.not_le.mpr h34)] at hE | rw [E_MH_small_2_L7, if_neg (Nat.not_le.mpr h34)] at hE | rw [E_MH_small_2_L8, if_neg (Nat.not_le.mpr h34)] at hE | replace hE := iteP_neg (Nat.not_le.mpr h34) hE
                  refine lv_goto (tgt := 176) hx hb dMH_small_118 (by decide) ?_
                  refine mi_iinc (k := 1) (x := 1) (d := 1) (y := 2) (lv' := [(7, .int (nI 2)), (8, .int (nI (z21 / 16))), (5, .int (nI (nn21 + 1))), (6, .int (nI z21)), (0, .ref h0), (1, .ref f)]) hx hb dMH_small_176 hl rfl (by decide) rfl (by decide) rfl (fun ls hl => ?_)
                  refine lv_goto (tgt := 69) hx hb dMH_small_179 (by decide) ?_
                  refine lv_iload hx hb dMH_small_69 (lv_at hl 0 rfl) ?_
                  refine lv_iconst (v := nI 2) hx hb dMH_small_71 (by decide) ?_
                  refine mi_ge (tgt := 182) hx hb dMH_small_72 (by decide) (by omega) (by omega) (fun h39 => ?_) (fun h39 => absurd h39 (by omega))
                  refine lv_goto (tgt := 49) hx hb dMH_small_182 (by decide) ?_
                  exact ih21 (nn21 + 1) s27 x36 pl ls H locs (by omega) (by omega) (by omega) hF hf89 hf90 hf91 hf92 hf93 hf94 hf95 hf96 hf97 (by have h9 := hf98; rw [show x37 = x34 by omega] at h9; exact h9) hE hR (lv_sub hl [2, 4, 5] rfl) hO hP hD hS
            · replace hR := hR.trans (if_neg h29)
              first | rw [if_neg h29] at hE | rw [E_MH_small_2_L0, if_neg h29] at hE | rw [E_MH_small_2_L1, if_neg h29] at hE | rw [E_MH_small_2_L2, if_neg h29] at hE | rw [E_MH_small_2_L3, if_neg h29] at hE | rw [E_MH_small_2_L4, if_neg h29] at hE | rw [E_MH_small_2_L5, if_neg h29] at hE | rw [E_MH_small_2_L6, if_neg h29] at hE | rw [E_MH_small_2_L7, if_neg h29] at hE | rw [E_MH_small_2_L8, if_neg h29] at hE | replace hE := iteP_neg h29 hE
              refine lv_iload hx hb dMH_small_162 (lv_at hl 0 rfl) ?_
              refine lv_ldc (v := 8380417) hx hb hown (hts _ (wg_t kw_1429)) dMH_small_164 ?_
              refine mi_as (show (8380417 : Int32) = nI 8380417 by decide) ?_
              refine lv_iadd hx hb dMH_small_166 ?_
              refine lv_goto (tgt := 172) hx hb dMH_small_167 (by decide) ?_
              refine nw_iast hx hb hK hO hU k_f (k := pf) n_f hP hD hS (by omega) (by omega) dMH_small_172 (fun s30 pl H locs es24 hO hP hD hS => ?_)
              replace hR := bnd_step hR es24
              first | rw [bnd_step rfl es24] at hE | replace hE := bndP_step hE es24
              have hF := frm_sI hF es24 (by unfold M_MH_small_2; omega)
              have hf119 : s30.1 225 23 = nI 2 := fc_ne hf81 es24 (by omega)
              have hf120 : s30.1 225 24 = nI 8 := fc_ne hf82 es24 (by omega)
              have hf121 : s30.1 225 25 = nI 7 := fc_ne hf83 es24 (by omega)
              have hf122 : s30.1 225 26 = nI 2 := fc_ne hf84 es24 (by omega)
              have hf123 : s30.1 225 27 = nI 524288 := fc_ne hf85 es24 (by omega)
              have hf124 : s30.1 225 28 = nI 261888 := fc_ne hf86 es24 (by omega)
              have hf125 : s30.1 225 29 = nI 120 := fc_ne hf87 es24 (by omega)
              have hf126 : s30.1 225 30 = nI 64 := fc_ne hf88 es24 (by omega)
              have hf127 : s30.1 172 6 = nI x36 := fc_ne hx_36 es24 (by omega)
              have hf128 : s30.1 172 5 = nI x37 := fc_ne hx_37 es24 (by omega)
              refine mi_iinc (k := 3) (x := nn21) (d := 1) (y := nn21 + 1) (lv' := [(5, .int (nI (nn21 + 1))), (8, .int z24), (7, .int (nI 0)), (6, .int (nI z21)), (0, .ref h0), (1, .ref f)]) hx hb dMH_small_173 hl rfl (by decide) rfl (by decide) rfl (fun ls hl => ?_)
              refine mi_iinc (k := 2) (x := 0) (d := 1) (y := 1) (lv' := [(7, .int (nI 1)), (5, .int (nI (nn21 + 1))), (8, .int z24), (6, .int (nI z21)), (0, .ref h0), (1, .ref f)]) hx hb dMH_small_176 hl rfl (by decide) rfl (by decide) rfl (fun ls hl => ?_)
              refine lv_goto (tgt := 69) hx hb dMH_small_179 (by decide) ?_
              refine lv_iload hx hb dMH_small_69 (lv_at hl 0 rfl) ?_
              refine lv_iconst (v := nI 2) hx hb dMH_small_71 (by decide) ?_
              refine mi_ge (tgt := 182) hx hb dMH_small_72 (by decide) (by omega) (by omega) (fun h40 => absurd h40 (by omega)) (fun h40 => ?_)
              refine lv_iload hx hb dMH_small_75 (lv_at hl 1 rfl) ?_
              refine lv_sipush (v := nI 256) hx hb dMH_small_77 (by decide) ?_
              refine mi_ge (tgt := 182) hx hb dMH_small_80 (by decide) (by omega) (by omega) (fun h41 => ?_) (fun h41 => ?_)
              · replace hR := hR.trans (if_pos h41)
                first | rw [if_pos h41] at hE | rw [E_MH_small_2_L0, if_pos h41] at hE | rw [E_MH_small_2_L1, if_pos h41] at hE | rw [E_MH_small_2_L2, if_pos h41] at hE | rw [E_MH_small_2_L3, if_pos h41] at hE | rw [E_MH_small_2_L4, if_pos h41] at hE | rw [E_MH_small_2_L5, if_pos h41] at hE | rw [E_MH_small_2_L6, if_pos h41] at hE | rw [E_MH_small_2_L7, if_pos h41] at hE | rw [E_MH_small_2_L8, if_pos h41] at hE | replace hE := iteP_pos h41 hE
                refine lv_goto (tgt := 49) hx hb dMH_small_182 (by decide) ?_
                exact ih21 (nn21 + 1) s30 x36 pl ls H locs (by omega) (by omega) (by omega) hF hf119 hf120 hf121 hf122 hf123 hf124 hf125 hf126 hf127 (by have h9 := hf128; rw [show x37 = x34 by omega] at h9; exact h9) hE hR (lv_sub hl [1, 4, 5] rfl) hO hP hD hS
              · replace hR := hR.trans (if_neg (Nat.not_le.mpr h41))
                first | rw [if_neg (Nat.not_le.mpr h41)] at hE | rw [E_MH_small_2_L0, if_neg (Nat.not_le.mpr h41)] at hE | rw [E_MH_small_2_L1, if_neg (Nat.not_le.mpr h41)] at hE | rw [E_MH_small_2_L2, if_neg (Nat.not_le.mpr h41)] at hE | rw [E_MH_small_2_L3, if_neg (Nat.not_le.mpr h41)] at hE | rw [E_MH_small_2_L4, if_neg (Nat.not_le.mpr h41)] at hE | rw [E_MH_small_2_L5, if_neg (Nat.not_le.mpr h41)] at hE | rw [E_MH_small_2_L6, if_neg (Nat.not_le.mpr h41)] at hE | rw [E_MH_small_2_L7, if_neg (Nat.not_le.mpr h41)] at hE | rw [E_MH_small_2_L8, if_neg (Nat.not_le.mpr h41)] at hE | replace hE := iteP_neg (Nat.not_le.mpr h41) hE
                refine lv_iload hx hb dMH_small_83 (lv_at hl 0 rfl) ?_
                refine lv_if_ne (tgt := 96) hx hb dMH_small_85 (by decide) (fun h42 => ?_) (fun h42 => absurd h42 (by decide))
                refine lv_iload hx hb dMH_small_96 (lv_at hl 3 rfl) ?_
                refine lv_bipush (v := nI 16) hx hb dMH_small_98 (by decide) ?_
                refine mi_idiv hx hb dMH_small_100 (by omega) (by omega) (by omega) ?_
                refine lv_istore (lv' := [(8, .int (nI (z21 / 16))), (7, .int (nI 1)), (5, .int (nI (nn21 + 1))), (6, .int (nI z21)), (0, .ref h0), (1, .ref f)]) hx hb dMH_small_101 hl (by decide) rfl (fun ls hl => ?_)
                refine lv_aload_n hx hb dMH_small_103 rfl (lv_at hl 4 rfl) ?_
                refine nw_get (C := "LatticeKeysModel$Hands") (TT := T_MH) (N := 31) hx hb hts (wg_ft i_MH) hown hK hO k_h0 (kn := 225) (ci := 12) (fl := [(3, 172), (3, 181), (3, 226), (3, 291), (3, 299), (3, 308), (3, 317), (3, 326), (3, 334), (3, 342), (3, 350), (3, 359), (3, 368), (3, 369), (3, 370), (3, 371), (3, 372), (3, 373), (3, 374), (3, 375), (3, 376), (3, 377), (3, 378), (0, 0), (0, 0), (0, 0), (0, 0), (0, 0), (0, 0), (0, 0), (0, 0)]) rfl hP rfl 26 (by decide) (hts _ (wg_t kw_1458)) (fun _ h9 => h9) (cd := (0, 0)) rfl dMH_small_104 (fun v31 hv31 => ?_)
                obtain rfl := (show v31 = .int (s30.1 225 26) from hv31)
                obtain ⟨z28, ez28, hz31, hz32⟩ := cl_of (b := 2147483648) hf122 (by omega) (by decide)
                replace hR := bnd_step hR ez28
                first | rw [bnd_step rfl ez28] at hE | replace hE := bndP_step hE ez28
                refine mi_as hz31 ?_
                subst hz32
                refine lv_iconst (v := nI 2) hx hb dMH_small_107 (by decide) ?_
                refine mi_ne (tgt := 121) hx hb dMH_small_108 (by decide) (by omega) (by omega) (fun h43 => absurd h43 (by omega)) (fun h43 => ?_)
                refine lv_iload hx hb dMH_small_111 (lv_at hl 0 rfl) ?_
                refine lv_bipush (v := nI 14) hx hb dMH_small_113 (by decide) ?_
                refine mi_le (tgt := 131) hx hb dMH_small_115 (by decide) (by omega) (by omega) (fun h44 => ?_) (fun h44 => ?_)
                · replace hR := hR.trans (if_pos h44)
                  first | rw [if_pos h44] at hE | rw [E_MH_small_2_L0, if_pos h44] at hE | rw [E_MH_small_2_L1, if_pos h44] at hE | rw [E_MH_small_2_L2, if_pos h44] at hE | rw [E_MH_small_2_L3, if_pos h44] at hE | rw [E_MH_small_2_L4, if_pos h44] at hE | rw [E_MH_small_2_L5, if_pos h44] at hE | rw [E_MH_small_2_L6, if_pos h44] at hE | rw [E_MH_small_2_L7, if_pos h44] at hE | rw [E_MH_small_2_L8, if_pos h44] at hE | replace hE := iteP_pos h44 hE
                  refine lv_aload_n hx hb dMH_small_131 rfl (lv_at hl 4 rfl) ?_
                  refine nw_get (C := "LatticeKeysModel$Hands") (TT := T_MH) (N := 31) hx hb hts (wg_ft i_MH) hown hK hO k_h0 (kn := 225) (ci := 12) (fl := [(3, 172), (3, 181), (3, 226), (3, 291), (3, 299), (3, 308), (3, 317), (3, 326), (3, 334), (3, 342), (3, 350), (3, 359), (3, 368), (3, 369), (3, 370), (3, 371), (3, 372), (3, 373), (3, 374), (3, 375), (3, 376), (3, 377), (3, 378), (0, 0), (0, 0), (0, 0), (0, 0), (0, 0), (0, 0), (0, 0), (0, 0)]) rfl hP rfl 26 (by decide) (hts _ (wg_t kw_1458)) (fun _ h9 => h9) (cd := (0, 0)) rfl dMH_small_132 (fun v32 hv32 => ?_)
                  obtain rfl := (show v32 = .int (s30.1 225 26) from hv32)
                  obtain ⟨z29, ez29, hz33, hz34⟩ := cl_of (b := 2147483648) hf122 (by omega) (by decide)
                  replace hR := bnd_step hR ez29
                  first | rw [bnd_step rfl ez29] at hE | replace hE := bndP_step hE ez29
                  refine mi_as hz33 ?_
                  subst hz34
                  refine lv_iconst (v := nI 2) hx hb dMH_small_135 (by decide) ?_
                  refine mi_ne (tgt := 148) hx hb dMH_small_136 (by decide) (by omega) (by omega) (fun h45 => absurd h45 (by omega)) (fun h45 => ?_)
                  refine lv_iconst (v := nI 2) hx hb dMH_small_139 (by decide) ?_
                  refine lv_iload hx hb dMH_small_140 (lv_at hl 0 rfl) ?_
                  refine lv_iconst (v := nI 5) hx hb dMH_small_142 (by decide) ?_
                  refine mi_irem hx hb dMH_small_143 (by omega) (by omega) (by omega) ?_
                  refine lv_isub hx hb dMH_small_144 ?_
                  refine lv_goto (tgt := 152) hx hb dMH_small_145 (by decide) ?_
                  refine mi_eqv (fun z30 ez30 => ?_)
                  replace hR := bnd_step hR ez30
                  first | rw [bnd_step rfl ez30] at hE | replace hE := bndP_step hE ez30
                  refine lv_istore (lv' := [(8, .int z30), (7, .int (nI 1)), (5, .int (nI (nn21 + 1))), (6, .int (nI z21)), (0, .ref h0), (1, .ref f)]) hx hb dMH_small_152 hl (by decide) rfl (fun ls hl => ?_)
                  refine lv_aload_n hx hb dMH_small_154 rfl (lv_at hl 5 rfl) ?_
                  refine lv_iload hx hb dMH_small_155 (lv_at hl 2 rfl) ?_
                  refine lv_iload hx hb dMH_small_157 (lv_at hl 0 rfl) ?_
                  refine lv_if_ge (tgt := 170) hx hb dMH_small_159 (by decide) (fun h46 => ?_) (fun h46 => ?_)
                  · replace hR := hR.trans (if_pos h46)
                    first | rw [if_pos h46] at hE | rw [E_MH_small_2_L0, if_pos h46] at hE | rw [E_MH_small_2_L1, if_pos h46] at hE | rw [E_MH_small_2_L2, if_pos h46] at hE | rw [E_MH_small_2_L3, if_pos h46] at hE | rw [E_MH_small_2_L4, if_pos h46] at hE | rw [E_MH_small_2_L5, if_pos h46] at hE | rw [E_MH_small_2_L6, if_pos h46] at hE | rw [E_MH_small_2_L7, if_pos h46] at hE | rw [E_MH_small_2_L8, if_pos h46] at hE | replace hE := iteP_pos h46 hE
                    refine lv_iload hx hb dMH_small_170 (lv_at hl 0 rfl) ?_
                    refine nw_iast hx hb hK hO hU k_f (k := pf) n_f hP hD hS (by omega) (by omega) dMH_small_172 (fun s31 pl H locs es25 hO hP hD hS => ?_)
                    replace hR := bnd_step hR es25
                    first | rw [bnd_step rfl es25] at hE | replace hE := bndP_step hE es25
                    have hF := frm_sI hF es25 (by unfold M_MH_small_2; omega)
                    have hf129 : s31.1 225 23 = nI 2 := fc_ne hf119 es25 (by omega)
                    have hf130 : s31.1 225 24 = nI 8 := fc_ne hf120 es25 (by omega)
                    have hf131 : s31.1 225 25 = nI 7 := fc_ne hf121 es25 (by omega)
                    have hf132 : s31.1 225 26 = nI 2 := fc_ne hf122 es25 (by omega)
                    have hf133 : s31.1 225 27 = nI 524288 := fc_ne hf123 es25 (by omega)
                    have hf134 : s31.1 225 28 = nI 261888 := fc_ne hf124 es25 (by omega)
                    have hf135 : s31.1 225 29 = nI 120 := fc_ne hf125 es25 (by omega)
                    have hf136 : s31.1 225 30 = nI 64 := fc_ne hf126 es25 (by omega)
                    have hf137 : s31.1 172 6 = nI x36 := fc_ne hf127 es25 (by omega)
                    have hf138 : s31.1 172 5 = nI x37 := fc_ne hf128 es25 (by omega)
                    refine mi_iinc (k := 2) (x := nn21 + 1) (d := 1) (y := nn21 + 1 + 1) (lv' := [(5, .int (nI (nn21 + 1 + 1))), (8, .int z30), (7, .int (nI 1)), (6, .int (nI z21)), (0, .ref h0), (1, .ref f)]) hx hb dMH_small_173 hl rfl (by decide) rfl (by decide) rfl (fun ls hl => ?_)
                    refine mi_iinc (k := 2) (x := 1) (d := 1) (y := 2) (lv' := [(7, .int (nI 2)), (5, .int (nI (nn21 + 1 + 1))), (8, .int z30), (6, .int (nI z21)), (0, .ref h0), (1, .ref f)]) hx hb dMH_small_176 hl rfl (by decide) rfl (by decide) rfl (fun ls hl => ?_)
                    refine lv_goto (tgt := 69) hx hb dMH_small_179 (by decide) ?_
                    refine lv_iload hx hb dMH_small_69 (lv_at hl 0 rfl) ?_
                    refine lv_iconst (v := nI 2) hx hb dMH_small_71 (by decide) ?_
                    refine mi_ge (tgt := 182) hx hb dMH_small_72 (by decide) (by omega) (by omega) (fun h47 => ?_) (fun h47 => absurd h47 (by omega))
                    refine lv_goto (tgt := 49) hx hb dMH_small_182 (by decide) ?_
                    exact ih21 (nn21 + 1 + 1) s31 x36 pl ls H locs (by omega) (by omega) (by omega) hF hf129 hf130 hf131 hf132 hf133 hf134 hf135 hf136 hf137 (by have h9 := hf138; rw [show x37 = x34 by omega] at h9; exact h9) hE hR (lv_sub hl [1, 4, 5] rfl) hO hP hD hS
                  · replace hR := hR.trans (if_neg h46)
                    first | rw [if_neg h46] at hE | rw [E_MH_small_2_L0, if_neg h46] at hE | rw [E_MH_small_2_L1, if_neg h46] at hE | rw [E_MH_small_2_L2, if_neg h46] at hE | rw [E_MH_small_2_L3, if_neg h46] at hE | rw [E_MH_small_2_L4, if_neg h46] at hE | rw [E_MH_small_2_L5, if_neg h46] at hE | rw [E_MH_small_2_L6, if_neg h46] at hE | rw [E_MH_small_2_L7, if_neg h46] at hE | rw [E_MH_small_2_L8, if_neg h46] at hE | replace hE := iteP_neg h46 hE
                    refine lv_iload hx hb dMH_small_162 (lv_at hl 0 rfl) ?_
                    refine lv_ldc (v := 8380417) hx hb hown (hts _ (wg_t kw_1429)) dMH_small_164 ?_
                    refine mi_as (show (8380417 : Int32) = nI 8380417 by decide) ?_
                    refine lv_iadd hx hb dMH_small_166 ?_
                    refine lv_goto (tgt := 172) hx hb dMH_small_167 (by decide) ?_
                    refine nw_iast hx hb hK hO hU k_f (k := pf) n_f hP hD hS (by omega) (by omega) dMH_small_172 (fun s32 pl H locs es26 hO hP hD hS => ?_)
                    replace hR := bnd_step hR es26
                    first | rw [bnd_step rfl es26] at hE | replace hE := bndP_step hE es26
                    have hF := frm_sI hF es26 (by unfold M_MH_small_2; omega)
                    have hf139 : s32.1 225 23 = nI 2 := fc_ne hf119 es26 (by omega)
                    have hf140 : s32.1 225 24 = nI 8 := fc_ne hf120 es26 (by omega)
                    have hf141 : s32.1 225 25 = nI 7 := fc_ne hf121 es26 (by omega)
                    have hf142 : s32.1 225 26 = nI 2 := fc_ne hf122 es26 (by omega)
                    have hf143 : s32.1 225 27 = nI 524288 := fc_ne hf123 es26 (by omega)
                    have hf144 : s32.1 225 28 = nI 261888 := fc_ne hf124 es26 (by omega)
                    have hf145 : s32.1 225 29 = nI 120 := fc_ne hf125 es26 (by omega)
                    have hf146 : s32.1 225 30 = nI 64 := fc_ne hf126 es26 (by omega)
                    have hf147 : s32.1 172 6 = nI x36 := fc_ne hf127 es26 (by omega)
                    have hf148 : s32.1 172 5 = nI x37 := fc_ne hf128 es26 (by omega)
                    refine mi_iinc (k := 2) (x := nn21 + 1) (d := 1) (y := nn21 + 1 + 1) (lv' := [(5, .int (nI (nn21 + 1 + 1))), (8, .int z30), (7, .int (nI 1)), (6, .int (nI z21)), (0, .ref h0), (1, .ref f)]) hx hb dMH_small_173 hl rfl (by decide) rfl (by decide) rfl (fun ls hl => ?_)
                    refine mi_iinc (k := 2) (x := 1) (d := 1) (y := 2) (lv' := [(7, .int (nI 2)), (5, .int (nI (nn21 + 1 + 1))), (8, .int z30), (6, .int (nI z21)), (0, .ref h0), (1, .ref f)]) hx hb dMH_small_176 hl rfl (by decide) rfl (by decide) rfl (fun ls hl => ?_)
                    refine lv_goto (tgt := 69) hx hb dMH_small_179 (by decide) ?_
                    refine lv_iload hx hb dMH_small_69 (lv_at hl 0 rfl) ?_
                    refine lv_iconst (v := nI 2) hx hb dMH_small_71 (by decide) ?_
                    refine mi_ge (tgt := 182) hx hb dMH_small_72 (by decide) (by omega) (by omega) (fun h48 => ?_) (fun h48 => absurd h48 (by omega))
                    refine lv_goto (tgt := 49) hx hb dMH_small_182 (by decide) ?_
                    exact ih21 (nn21 + 1 + 1) s32 x36 pl ls H locs (by omega) (by omega) (by omega) hF hf139 hf140 hf141 hf142 hf143 hf144 hf145 hf146 hf147 (by have h9 := hf148; rw [show x37 = x34 by omega] at h9; exact h9) hE hR (lv_sub hl [1, 4, 5] rfl) hO hP hD hS
                · replace hR := hR.trans (if_neg (Nat.not_le.mpr h44))
                  first | rw [if_neg (Nat.not_le.mpr h44)] at hE | rw [E_MH_small_2_L0, if_neg (Nat.not_le.mpr h44)] at hE | rw [E_MH_small_2_L1, if_neg (Nat.not_le.mpr h44)] at hE | rw [E_MH_small_2_L2, if_neg (Nat.not_le.mpr h44)] at hE | rw [E_MH_small_2_L3, if_neg (Nat.not_le.mpr h44)] at hE | rw [E_MH_small_2_L4, if_neg (Nat.not_le.mpr h44)] at hE | rw [E_MH_small_2_L5, if_neg (Nat.not_le.mpr h44)] at hE | rw [E_MH_small_2_L6, if_neg (Nat.not_le.mpr h44)] at hE | rw [E_MH_small_2_L7, if_neg (Nat.not_le.mpr h44)] at hE | rw [E_MH_small_2_L8, if_neg (Nat.not_le.mpr h44)] at hE | replace hE := iteP_neg (Nat.not_le.mpr h44) hE
                  refine lv_goto (tgt := 176) hx hb dMH_small_118 (by decide) ?_
                  refine mi_iinc (k := 1) (x := 1) (d := 1) (y := 2) (lv' := [(7, .int (nI 2)), (8, .int (nI (z21 / 16))), (5, .int (nI (nn21 + 1))), (6, .int (nI z21)), (0, .ref h0), (1, .ref f)]) hx hb dMH_small_176 hl rfl (by decide) rfl (by decide) rfl (fun ls hl => ?_)
                  refine lv_goto (tgt := 69) hx hb dMH_small_179 (by decide) ?_
                  refine lv_iload hx hb dMH_small_69 (lv_at hl 0 rfl) ?_
                  refine lv_iconst (v := nI 2) hx hb dMH_small_71 (by decide) ?_
                  refine mi_ge (tgt := 182) hx hb dMH_small_72 (by decide) (by omega) (by omega) (fun h49 => ?_) (fun h49 => absurd h49 (by omega))
                  refine lv_goto (tgt := 49) hx hb dMH_small_182 (by decide) ?_
                  exact ih21 (nn21 + 1) s30 x36 pl ls H locs (by omega) (by omega) (by omega) hF hf119 hf120 hf121 hf122 hf123 hf124 hf125 hf126 hf127 (by have h9 := hf128; rw [show x37 = x34 by omega] at h9; exact h9) hE hR (lv_sub hl [2, 4, 5] rfl) hO hP hD hS
          · replace hR := hR.trans (if_neg (Nat.not_le.mpr h27))
            first | rw [if_neg (Nat.not_le.mpr h27)] at hE | rw [E_MH_small_2_L0, if_neg (Nat.not_le.mpr h27)] at hE | rw [E_MH_small_2_L1, if_neg (Nat.not_le.mpr h27)] at hE | rw [E_MH_small_2_L2, if_neg (Nat.not_le.mpr h27)] at hE | rw [E_MH_small_2_L3, if_neg (Nat.not_le.mpr h27)] at hE | rw [E_MH_small_2_L4, if_neg (Nat.not_le.mpr h27)] at hE | rw [E_MH_small_2_L5, if_neg (Nat.not_le.mpr h27)] at hE | rw [E_MH_small_2_L6, if_neg (Nat.not_le.mpr h27)] at hE | rw [E_MH_small_2_L7, if_neg (Nat.not_le.mpr h27)] at hE | rw [E_MH_small_2_L8, if_neg (Nat.not_le.mpr h27)] at hE | replace hE := iteP_neg (Nat.not_le.mpr h27) hE
            refine lv_goto (tgt := 176) hx hb dMH_small_118 (by decide) ?_
            refine mi_iinc (k := 1) (x := 0) (d := 1) (y := 1) (lv' := [(7, .int (nI 1)), (8, .int (nI (z21 % 16))), (6, .int (nI z21)), (5, .int (nI nn21)), (0, .ref h0), (1, .ref f)]) hx hb dMH_small_176 hl rfl (by decide) rfl (by decide) rfl (fun ls hl => ?_)
            refine lv_goto (tgt := 69) hx hb dMH_small_179 (by decide) ?_
            refine lv_iload hx hb dMH_small_69 (lv_at hl 0 rfl) ?_
            refine lv_iconst (v := nI 2) hx hb dMH_small_71 (by decide) ?_
            refine mi_ge (tgt := 182) hx hb dMH_small_72 (by decide) (by omega) (by omega) (fun h50 => absurd h50 (by omega)) (fun h50 => ?_)
            refine lv_iload hx hb dMH_small_75 (lv_at hl 3 rfl) ?_
            refine lv_sipush (v := nI 256) hx hb dMH_small_77 (by decide) ?_
            refine mi_ge (tgt := 182) hx hb dMH_small_80 (by decide) (by omega) (by omega) (fun h51 => ?_) (fun h51 => ?_)
            · replace hR := hR.trans (if_pos h51)
              first | rw [if_pos h51] at hE | rw [E_MH_small_2_L0, if_pos h51] at hE | rw [E_MH_small_2_L1, if_pos h51] at hE | rw [E_MH_small_2_L2, if_pos h51] at hE | rw [E_MH_small_2_L3, if_pos h51] at hE | rw [E_MH_small_2_L4, if_pos h51] at hE | rw [E_MH_small_2_L5, if_pos h51] at hE | rw [E_MH_small_2_L6, if_pos h51] at hE | rw [E_MH_small_2_L7, if_pos h51] at hE | rw [E_MH_small_2_L8, if_pos h51] at hE | replace hE := iteP_pos h51 hE
              refine lv_goto (tgt := 49) hx hb dMH_small_182 (by decide) ?_
              exact ih21 nn21 q21.2 x36 pl ls H locs (by omega) (by omega) (by omega) hF hf81 hf82 hf83 hf84 hf85 hf86 hf87 hf88 hx_36 (by have h9 := hx_37; rw [show x37 = x34 by omega] at h9; exact h9) hE hR (lv_sub hl [3, 4, 5] rfl) hO hP hD hS
            · replace hR := hR.trans (if_neg (Nat.not_le.mpr h51))
              first | rw [if_neg (Nat.not_le.mpr h51)] at hE | rw [E_MH_small_2_L0, if_neg (Nat.not_le.mpr h51)] at hE | rw [E_MH_small_2_L1, if_neg (Nat.not_le.mpr h51)] at hE | rw [E_MH_small_2_L2, if_neg (Nat.not_le.mpr h51)] at hE | rw [E_MH_small_2_L3, if_neg (Nat.not_le.mpr h51)] at hE | rw [E_MH_small_2_L4, if_neg (Nat.not_le.mpr h51)] at hE | rw [E_MH_small_2_L5, if_neg (Nat.not_le.mpr h51)] at hE | rw [E_MH_small_2_L6, if_neg (Nat.not_le.mpr h51)] at hE | rw [E_MH_small_2_L7, if_neg (Nat.not_le.mpr h51)] at hE | rw [E_MH_small_2_L8, if_neg (Nat.not_le.mpr h51)] at hE | replace hE := iteP_neg (Nat.not_le.mpr h51) hE
              refine lv_iload hx hb dMH_small_83 (lv_at hl 0 rfl) ?_
              refine lv_if_ne (tgt := 96) hx hb dMH_small_85 (by decide) (fun h52 => ?_) (fun h52 => absurd h52 (by decide))
              refine lv_iload hx hb dMH_small_96 (lv_at hl 2 rfl) ?_
              refine lv_bipush (v := nI 16) hx hb dMH_small_98 (by decide) ?_
              refine mi_idiv hx hb dMH_small_100 (by omega) (by omega) (by omega) ?_
              refine lv_istore (lv' := [(8, .int (nI (z21 / 16))), (7, .int (nI 1)), (6, .int (nI z21)), (5, .int (nI nn21)), (0, .ref h0), (1, .ref f)]) hx hb dMH_small_101 hl (by decide) rfl (fun ls hl => ?_)
              refine lv_aload_n hx hb dMH_small_103 rfl (lv_at hl 4 rfl) ?_
              refine nw_get (C := "LatticeKeysModel$Hands") (TT := T_MH) (N := 31) hx hb hts (wg_ft i_MH) hown hK hO k_h0 (kn := 225) (ci := 12) (fl := [(3, 172), (3, 181), (3, 226), (3, 291), (3, 299), (3, 308), (3, 317), (3, 326), (3, 334), (3, 342), (3, 350), (3, 359), (3, 368), (3, 369), (3, 370), (3, 371), (3, 372), (3, 373), (3, 374), (3, 375), (3, 376), (3, 377), (3, 378), (0, 0), (0, 0), (0, 0), (0, 0), (0, 0), (0, 0), (0, 0), (0, 0)]) rfl hP rfl 26 (by decide) (hts _ (wg_t kw_1458)) (fun _ h9 => h9) (cd := (0, 0)) rfl dMH_small_104 (fun v33 hv33 => ?_)
              obtain rfl := (show v33 = .int (q21.2.1 225 26) from hv33)
              obtain ⟨z31, ez31, hz35, hz36⟩ := cl_of (b := 2147483648) hf84 (by omega) (by decide)
              replace hR := bnd_step hR ez31
              first | rw [bnd_step rfl ez31] at hE | replace hE := bndP_step hE ez31
              refine mi_as hz35 ?_
              subst hz36
              refine lv_iconst (v := nI 2) hx hb dMH_small_107 (by decide) ?_
              refine mi_ne (tgt := 121) hx hb dMH_small_108 (by decide) (by omega) (by omega) (fun h53 => absurd h53 (by omega)) (fun h53 => ?_)
              refine lv_iload hx hb dMH_small_111 (lv_at hl 0 rfl) ?_
              refine lv_bipush (v := nI 14) hx hb dMH_small_113 (by decide) ?_
              refine mi_le (tgt := 131) hx hb dMH_small_115 (by decide) (by omega) (by omega) (fun h54 => ?_) (fun h54 => ?_)
              · replace hR := hR.trans (if_pos h54)
                first | rw [if_pos h54] at hE | rw [E_MH_small_2_L0, if_pos h54] at hE | rw [E_MH_small_2_L1, if_pos h54] at hE | rw [E_MH_small_2_L2, if_pos h54] at hE | rw [E_MH_small_2_L3, if_pos h54] at hE | rw [E_MH_small_2_L4, if_pos h54] at hE | rw [E_MH_small_2_L5, if_pos h54] at hE | rw [E_MH_small_2_L6, if_pos h54] at hE | rw [E_MH_small_2_L7, if_pos h54] at hE | rw [E_MH_small_2_L8, if_pos h54] at hE | replace hE := iteP_pos h54 hE
                refine lv_aload_n hx hb dMH_small_131 rfl (lv_at hl 4 rfl) ?_
                refine nw_get (C := "LatticeKeysModel$Hands") (TT := T_MH) (N := 31) hx hb hts (wg_ft i_MH) hown hK hO k_h0 (kn := 225) (ci := 12) (fl := [(3, 172), (3, 181), (3, 226), (3, 291), (3, 299), (3, 308), (3, 317), (3, 326), (3, 334), (3, 342), (3, 350), (3, 359), (3, 368), (3, 369), (3, 370), (3, 371), (3, 372), (3, 373), (3, 374), (3, 375), (3, 376), (3, 377), (3, 378), (0, 0), (0, 0), (0, 0), (0, 0), (0, 0), (0, 0), (0, 0), (0, 0)]) rfl hP rfl 26 (by decide) (hts _ (wg_t kw_1458)) (fun _ h9 => h9) (cd := (0, 0)) rfl dMH_small_132 (fun v34 hv34 => ?_)
                obtain rfl := (show v34 = .int (q21.2.1 225 26) from hv34)
                obtain ⟨z32, ez32, hz37, hz38⟩ := cl_of (b := 2147483648) hf84 (by omega) (by decide)
                replace hR := bnd_step hR ez32
                first | rw [bnd_step rfl ez32] at hE | replace hE := bndP_step hE ez32
                refine mi_as hz37 ?_
                subst hz38
                refine lv_iconst (v := nI 2) hx hb dMH_small_135 (by decide) ?_
                refine mi_ne (tgt := 148) hx hb dMH_small_136 (by decide) (by omega) (by omega) (fun h55 => absurd h55 (by omega)) (fun h55 => ?_)
                refine lv_iconst (v := nI 2) hx hb dMH_small_139 (by decide) ?_
                refine lv_iload hx hb dMH_small_140 (lv_at hl 0 rfl) ?_
                refine lv_iconst (v := nI 5) hx hb dMH_small_142 (by decide) ?_
                refine mi_irem hx hb dMH_small_143 (by omega) (by omega) (by omega) ?_
                refine lv_isub hx hb dMH_small_144 ?_
                refine lv_goto (tgt := 152) hx hb dMH_small_145 (by decide) ?_
                refine mi_eqv (fun z33 ez33 => ?_)
                replace hR := bnd_step hR ez33
                first | rw [bnd_step rfl ez33] at hE | replace hE := bndP_step hE ez33
                refine lv_istore (lv' := [(8, .int z33), (7, .int (nI 1)), (6, .int (nI z21)), (5, .int (nI nn21)), (0, .ref h0), (1, .ref f)]) hx hb dMH_small_152 hl (by decide) rfl (fun ls hl => ?_)
                refine lv_aload_n hx hb dMH_small_154 rfl (lv_at hl 5 rfl) ?_
                refine lv_iload hx hb dMH_small_155 (lv_at hl 3 rfl) ?_
                refine lv_iload hx hb dMH_small_157 (lv_at hl 0 rfl) ?_
                refine lv_if_ge (tgt := 170) hx hb dMH_small_159 (by decide) (fun h56 => ?_) (fun h56 => ?_)
                · replace hR := hR.trans (if_pos h56)
                  first | rw [if_pos h56] at hE | rw [E_MH_small_2_L0, if_pos h56] at hE | rw [E_MH_small_2_L1, if_pos h56] at hE | rw [E_MH_small_2_L2, if_pos h56] at hE | rw [E_MH_small_2_L3, if_pos h56] at hE | rw [E_MH_small_2_L4, if_pos h56] at hE | rw [E_MH_small_2_L5, if_pos h56] at hE | rw [E_MH_small_2_L6, if_pos h56] at hE | rw [E_MH_small_2_L7, if_pos h56] at hE | rw [E_MH_small_2_L8, if_pos h56] at hE | replace hE := iteP_pos h56 hE
                  refine lv_iload hx hb dMH_small_170 (lv_at hl 0 rfl) ?_
                  refine nw_iast hx hb hK hO hU k_f (k := pf) n_f hP hD hS (by omega) (by omega) dMH_small_172 (fun s33 pl H locs es27 hO hP hD hS => ?_)
                  replace hR := bnd_step hR es27
                  first | rw [bnd_step rfl es27] at hE | replace hE := bndP_step hE es27
                  have hF := frm_sI hF es27 (by unfold M_MH_small_2; omega)
                  have hf149 : s33.1 225 23 = nI 2 := fc_ne hf81 es27 (by omega)
                  have hf150 : s33.1 225 24 = nI 8 := fc_ne hf82 es27 (by omega)
                  have hf151 : s33.1 225 25 = nI 7 := fc_ne hf83 es27 (by omega)
                  have hf152 : s33.1 225 26 = nI 2 := fc_ne hf84 es27 (by omega)
                  have hf153 : s33.1 225 27 = nI 524288 := fc_ne hf85 es27 (by omega)
                  have hf154 : s33.1 225 28 = nI 261888 := fc_ne hf86 es27 (by omega)
                  have hf155 : s33.1 225 29 = nI 120 := fc_ne hf87 es27 (by omega)
                  have hf156 : s33.1 225 30 = nI 64 := fc_ne hf88 es27 (by omega)
                  have hf157 : s33.1 172 6 = nI x36 := fc_ne hx_36 es27 (by omega)
                  have hf158 : s33.1 172 5 = nI x37 := fc_ne hx_37 es27 (by omega)
                  refine mi_iinc (k := 3) (x := nn21) (d := 1) (y := nn21 + 1) (lv' := [(5, .int (nI (nn21 + 1))), (8, .int z33), (7, .int (nI 1)), (6, .int (nI z21)), (0, .ref h0), (1, .ref f)]) hx hb dMH_small_173 hl rfl (by decide) rfl (by decide) rfl (fun ls hl => ?_)
                  refine mi_iinc (k := 2) (x := 1) (d := 1) (y := 2) (lv' := [(7, .int (nI 2)), (5, .int (nI (nn21 + 1))), (8, .int z33), (6, .int (nI z21)), (0, .ref h0), (1, .ref f)]) hx hb dMH_small_176 hl rfl (by decide) rfl (by decide) rfl (fun ls hl => ?_)
                  refine lv_goto (tgt := 69) hx hb dMH_small_179 (by decide) ?_
                  refine lv_iload hx hb dMH_small_69 (lv_at hl 0 rfl) ?_
                  refine lv_iconst (v := nI 2) hx hb dMH_small_71 (by decide) ?_
                  refine mi_ge (tgt := 182) hx hb dMH_small_72 (by decide) (by omega) (by omega) (fun h57 => ?_) (fun h57 => absurd h57 (by omega))
                  refine lv_goto (tgt := 49) hx hb dMH_small_182 (by decide) ?_
                  exact ih21 (nn21 + 1) s33 x36 pl ls H locs (by omega) (by omega) (by omega) hF hf149 hf150 hf151 hf152 hf153 hf154 hf155 hf156 hf157 (by have h9 := hf158; rw [show x37 = x34 by omega] at h9; exact h9) hE hR (lv_sub hl [1, 4, 5] rfl) hO hP hD hS
                · replace hR := hR.trans (if_neg h56)
                  first | rw [if_neg h56] at hE | rw [E_MH_small_2_L0, if_neg h56] at hE | rw [E_MH_small_2_L1, if_neg h56] at hE | rw [E_MH_small_2_L2, if_neg h56] at hE | rw [E_MH_small_2_L3, if_neg h56] at hE | rw [E_MH_small_2_L4, if_neg h56] at hE | rw [E_MH_small_2_L5, if_neg h56] at hE | rw [E_MH_small_2_L6, if_neg h56] at hE | rw [E_MH_small_2_L7, if_neg h56] at hE | rw [E_MH_small_2_L8, if_neg h56] at hE | replace hE := iteP_neg h56 hE
                  refine lv_iload hx hb dMH_small_162 (lv_at hl 0 rfl) ?_
                  refine lv_ldc (v := 8380417) hx hb hown (hts _ (wg_t kw_1429)) dMH_small_164 ?_
                  refine mi_as (show (8380417 : Int32) = nI 8380417 by decide) ?_
                  refine lv_iadd hx hb dMH_small_166 ?_
                  refine lv_goto (tgt := 172) hx hb dMH_small_167 (by decide) ?_
                  refine nw_iast hx hb hK hO hU k_f (k := pf) n_f hP hD hS (by omega) (by omega) dMH_small_172 (fun s34 pl H locs es28 hO hP hD hS => ?_)
                  replace hR := bnd_step hR es28
                  first | rw [bnd_step rfl es28] at hE | replace hE := bndP_step hE es28
                  have hF := frm_sI hF es28 (by unfold M_MH_small_2; omega)
                  have hf159 : s34.1 225 23 = nI 2 := fc_ne hf81 es28 (by omega)
                  have hf160 : s34.1 225 24 = nI 8 := fc_ne hf82 es28 (by omega)
                  have hf161 : s34.1 225 25 = nI 7 := fc_ne hf83 es28 (by omega)
                  have hf162 : s34.1 225 26 = nI 2 := fc_ne hf84 es28 (by omega)
                  have hf163 : s34.1 225 27 = nI 524288 := fc_ne hf85 es28 (by omega)
                  have hf164 : s34.1 225 28 = nI 261888 := fc_ne hf86 es28 (by omega)
                  have hf165 : s34.1 225 29 = nI 120 := fc_ne hf87 es28 (by omega)
                  have hf166 : s34.1 225 30 = nI 64 := fc_ne hf88 es28 (by omega)
                  have hf167 : s34.1 172 6 = nI x36 := fc_ne hx_36 es28 (by omega)
                  have hf168 : s34.1 172 5 = nI x37 := fc_ne hx_37 es28 (by omega)
                  refine mi_iinc (k := 3) (x := nn21) (d := 1) (y := nn21 + 1) (lv' := [(5, .int (nI (nn21 + 1))), (8, .int z33), (7, .int (nI 1)), (6, .int (nI z21)), (0, .ref h0), (1, .ref f)]) hx hb dMH_small_173 hl rfl (by decide) rfl (by decide) rfl (fun ls hl => ?_)
                  refine mi_iinc (k := 2) (x := 1) (d := 1) (y := 2) (lv' := [(7, .int (nI 2)), (5, .int (nI (nn21 + 1))), (8, .int z33), (6, .int (nI z21)), (0, .ref h0), (1, .ref f)]) hx hb dMH_small_176 hl rfl (by decide) rfl (by decide) rfl (fun ls hl => ?_)
                  refine lv_goto (tgt := 69) hx hb dMH_small_179 (by decide) ?_
                  refine lv_iload hx hb dMH_small_69 (lv_at hl 0 rfl) ?_
                  refine lv_iconst (v := nI 2) hx hb dMH_small_71 (by decide) ?_
                  refine mi_ge (tgt := 182) hx hb dMH_small_72 (by decide) (by omega) (by omega) (fun h58 => ?_) (fun h58 => absurd h58 (by omega))
                  refine lv_goto (tgt := 49) hx hb dMH_small_182 (by decide) ?_
                  exact ih21 (nn21 + 1) s34 x36 pl ls H locs (by omega) (by omega) (by omega) hF hf159 hf160 hf161 hf162 hf163 hf164 hf165 hf166 hf167 (by have h9 := hf168; rw [show x37 = x34 by omega] at h9; exact h9) hE hR (lv_sub hl [1, 4, 5] rfl) hO hP hD hS
              · replace hR := hR.trans (if_neg (Nat.not_le.mpr h54))
                first | rw [if_neg (Nat.not_le.mpr h54)] at hE | rw [E_MH_small_2_L0, if_neg (Nat.not_le.mpr h54)] at hE | rw [E_MH_small_2_L1, if_neg (Nat.not_le.mpr h54)] at hE | rw [E_MH_small_2_L2, if_neg (Nat.not_le.mpr h54)] at hE | rw [E_MH_small_2_L3, if_neg (Nat.not_le.mpr h54)] at hE | rw [E_MH_small_2_L4, if_neg (Nat.not_le.mpr h54)] at hE | rw [E_MH_small_2_L5, if_neg (Nat.not_le.mpr h54)] at hE | rw [E_MH_small_2_L6, if_neg (Nat.not_le.mpr h54)] at hE | rw [E_MH_small_2_L7, if_neg (Nat.not_le.mpr h54)] at hE | rw [E_MH_small_2_L8, if_neg (Nat.not_le.mpr h54)] at hE | replace hE := iteP_neg (Nat.not_le.mpr h54) hE
                refine lv_goto (tgt := 176) hx hb dMH_small_118 (by decide) ?_
                refine mi_iinc (k := 1) (x := 1) (d := 1) (y := 2) (lv' := [(7, .int (nI 2)), (8, .int (nI (z21 / 16))), (6, .int (nI z21)), (5, .int (nI nn21)), (0, .ref h0), (1, .ref f)]) hx hb dMH_small_176 hl rfl (by decide) rfl (by decide) rfl (fun ls hl => ?_)
                refine lv_goto (tgt := 69) hx hb dMH_small_179 (by decide) ?_
                refine lv_iload hx hb dMH_small_69 (lv_at hl 0 rfl) ?_
                refine lv_iconst (v := nI 2) hx hb dMH_small_71 (by decide) ?_
                refine mi_ge (tgt := 182) hx hb dMH_small_72 (by decide) (by omega) (by omega) (fun h59 => ?_) (fun h59 => absurd h59 (by omega))
                refine lv_goto (tgt := 49) hx hb dMH_small_182 (by decide) ?_
                exact ih21 nn21 q21.2 x36 pl ls H locs (by omega) (by omega) (by omega) hF hf81 hf82 hf83 hf84 hf85 hf86 hf87 hf88 hx_36 (by have h9 := hx_37; rw [show x37 = x34 by omega] at h9; exact h9) hE hR (lv_sub hl [3, 4, 5] rfl) hO hP hD hS
  exact lp21 fuelM 0 s25 x33 pl ls _ _ (by omega) (by omega) (by omega) hF hf53 hf54 hf55 hf56 hf57 hf58 hf59 hf60 hx_33 hx_34 hE hR (lv_sub hl [0, 1, 2] rfl) hO hP hD hS
