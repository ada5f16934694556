set_option linter.all false
abbrev c_MH_ball : ByteArray := prog_13_method_20_code
abbrev y_MH_ball : MethodName := ⟨"LatticeKeysModel$Hands", "ball", "([B)V"⟩
abbrev w_MH_ball : List Cond := Cond.code y_MH_ball c_MH_ball 6 none :: WG
theorem dMH_ball_0 : decode c_MH_ball 0 = .ok (.aload_n 0, 1) := by decide +kernel
theorem dMH_ball_1 : decode c_MH_ball 1 = .ok (.getfield 87, 3) := by decide +kernel
theorem dMH_ball_4 : decode c_MH_ball 4 = .ok (.invokevirtual 156, 3) := by decide +kernel
theorem dMH_ball_7 : decode c_MH_ball 7 = .ok (.aload_n 0, 1) := by decide +kernel
theorem dMH_ball_8 : decode c_MH_ball 8 = .ok (.getfield 87, 3) := by decide +kernel
theorem dMH_ball_11 : decode c_MH_ball 11 = .ok (.aload_n 1, 1) := by decide +kernel
theorem dMH_ball_12 : decode c_MH_ball 12 = .ok (.iconst 0, 1) := by decide +kernel
theorem dMH_ball_13 : decode c_MH_ball 13 = .ok (.aload_n 0, 1) := by decide +kernel
theorem dMH_ball_14 : decode c_MH_ball 14 = .ok (.getfield 132, 3) := by decide +kernel
theorem dMH_ball_17 : decode c_MH_ball 17 = .ok (.invokevirtual 142, 3) := by decide +kernel
theorem dMH_ball_20 : decode c_MH_ball 20 = .ok (.aload_n 0, 1) := by decide +kernel
theorem dMH_ball_21 : decode c_MH_ball 21 = .ok (.getfield 87, 3) := by decide +kernel
theorem dMH_ball_24 : decode c_MH_ball 24 = .ok (.invokevirtual 149, 3) := by decide +kernel
theorem dMH_ball_27 : decode c_MH_ball 27 = .ok (.lconst 0, 1) := by decide +kernel
theorem dMH_ball_28 : decode c_MH_ball 28 = .ok (.lstore_n 2, 1) := by decide +kernel
theorem dMH_ball_29 : decode c_MH_ball 29 = .ok (.iconst 0, 1) := by decide +kernel
theorem dMH_ball_30 : decode c_MH_ball 30 = .ok (.istore 4, 2) := by decide +kernel
theorem dMH_ball_32 : decode c_MH_ball 32 = .ok (.iload 4, 2) := by decide +kernel
theorem dMH_ball_34 : decode c_MH_ball 34 = .ok (.bipush 8, 2) := by decide +kernel
theorem dMH_ball_36 : decode c_MH_ball 36 = .ok (.if_icmp .ge 26, 3) := by decide +kernel
theorem dMH_ball_39 : decode c_MH_ball 39 = .ok (.lload_n 2, 1) := by decide +kernel
theorem dMH_ball_40 : decode c_MH_ball 40 = .ok (.aload_n 0, 1) := by decide +kernel
theorem dMH_ball_41 : decode c_MH_ball 41 = .ok (.getfield 87, 3) := by decide +kernel
theorem dMH_ball_44 : decode c_MH_ball 44 = .ok (.invokevirtual 152, 3) := by decide +kernel
theorem dMH_ball_47 : decode c_MH_ball 47 = .ok (.i2l, 1) := by decide +kernel
theorem dMH_ball_48 : decode c_MH_ball 48 = .ok (.bipush 8, 2) := by decide +kernel
theorem dMH_ball_50 : decode c_MH_ball 50 = .ok (.iload 4, 2) := by decide +kernel
theorem dMH_ball_52 : decode c_MH_ball 52 = .ok (.imul, 1) := by decide +kernel
theorem dMH_ball_53 : decode c_MH_ball 53 = .ok (.lshl, 1) := by decide +kernel
theorem dMH_ball_54 : decode c_MH_ball 54 = .ok (.lor, 1) := by decide +kernel
theorem dMH_ball_55 : decode c_MH_ball 55 = .ok (.lstore_n 2, 1) := by decide +kernel
theorem dMH_ball_56 : decode c_MH_ball 56 = .ok (.iinc 4 1, 3) := by decide +kernel
theorem dMH_ball_59 : decode c_MH_ball 59 = .ok (.goto (-27), 3) := by decide +kernel
theorem dMH_ball_62 : decode c_MH_ball 62 = .ok (.iconst 0, 1) := by decide +kernel
theorem dMH_ball_63 : decode c_MH_ball 63 = .ok (.istore 4, 2) := by decide +kernel
theorem dMH_ball_65 : decode c_MH_ball 65 = .ok (.iload 4, 2) := by decide +kernel
theorem dMH_ball_67 : decode c_MH_ball 67 = .ok (.sipush 256, 3) := by decide +kernel
theorem dMH_ball_70 : decode c_MH_ball 70 = .ok (.if_icmp .ge 17, 3) := by decide +kernel
theorem dMH_ball_73 : decode c_MH_ball 73 = .ok (.aload_n 0, 1) := by decide +kernel
theorem dMH_ball_74 : decode c_MH_ball 74 = .ok (.getfield 51, 3) := by decide +kernel
theorem dMH_ball_77 : decode c_MH_ball 77 = .ok (.iload 4, 2) := by decide +kernel
theorem dMH_ball_79 : decode c_MH_ball 79 = .ok (.iconst 0, 1) := by decide +kernel
theorem dMH_ball_80 : decode c_MH_ball 80 = .ok (.iastore, 1) := by decide +kernel
theorem dMH_ball_81 : decode c_MH_ball 81 = .ok (.iinc 4 1, 3) := by decide +kernel
theorem dMH_ball_84 : decode c_MH_ball 84 = .ok (.goto (-19), 3) := by decide +kernel
theorem dMH_ball_87 : decode c_MH_ball 87 = .ok (.sipush 256, 3) := by decide +kernel
theorem dMH_ball_90 : decode c_MH_ball 90 = .ok (.getstatic 126, 3) := by decide +kernel
theorem dMH_ball_93 : decode c_MH_ball 93 = .ok (.aload_n 0, 1) := by decide +kernel
theorem dMH_ball_94 : decode c_MH_ball 94 = .ok (.getfield 103, 3) := by decide +kernel
theorem dMH_ball_97 : decode c_MH_ball 97 = .ok (.iaload, 1) := by decide +kernel
theorem dMH_ball_98 : decode c_MH_ball 98 = .ok (.isub, 1) := by decide +kernel
theorem dMH_ball_99 : decode c_MH_ball 99 = .ok (.istore 4, 2) := by decide +kernel
theorem dMH_ball_101 : decode c_MH_ball 101 = .ok (.iload 4, 2) := by decide +kernel
theorem dMH_ball_103 : decode c_MH_ball 103 = .ok (.sipush 256, 3) := by decide +kernel
theorem dMH_ball_106 : decode c_MH_ball 106 = .ok (.if_icmp .ge 87, 3) := by decide +kernel
theorem dMH_ball_109 : decode c_MH_ball 109 = .ok (.aload_n 0, 1) := by decide +kernel
theorem dMH_ball_110 : decode c_MH_ball 110 = .ok (.getfield 87, 3) := by decide +kernel
theorem dMH_ball_113 : decode c_MH_ball 113 = .ok (.invokevirtual 152, 3) := by decide +kernel
theorem dMH_ball_116 : decode c_MH_ball 116 = .ok (.istore 5, 2) := by decide +kernel
theorem dMH_ball_118 : decode c_MH_ball 118 = .ok (.iload 5, 2) := by decide +kernel
theorem dMH_ball_120 : decode c_MH_ball 120 = .ok (.iload 4, 2) := by decide +kernel
theorem dMH_ball_122 : decode c_MH_ball 122 = .ok (.if_icmp .le 15, 3) := by decide +kernel
theorem dMH_ball_125 : decode c_MH_ball 125 = .ok (.aload_n 0, 1) := by decide +kernel
theorem dMH_ball_126 : decode c_MH_ball 126 = .ok (.getfield 87, 3) := by decide +kernel
theorem dMH_ball_129 : decode c_MH_ball 129 = .ok (.invokevirtual 152, 3) := by decide +kernel
theorem dMH_ball_132 : decode c_MH_ball 132 = .ok (.istore 5, 2) := by decide +kernel
theorem dMH_ball_134 : decode c_MH_ball 134 = .ok (.goto (-16), 3) := by decide +kernel
theorem dMH_ball_137 : decode c_MH_ball 137 = .ok (.aload_n 0, 1) := by decide +kernel
theorem dMH_ball_138 : decode c_MH_ball 138 = .ok (.getfield 51, 3) := by decide +kernel
theorem dMH_ball_141 : decode c_MH_ball 141 = .ok (.iload 4, 2) := by decide +kernel
theorem dMH_ball_143 : decode c_MH_ball 143 = .ok (.aload_n 0, 1) := by decide +kernel
theorem dMH_ball_144 : decode c_MH_ball 144 = .ok (.getfield 51, 3) := by decide +kernel
theorem dMH_ball_147 : decode c_MH_ball 147 = .ok (.iload 5, 2) := by decide +kernel
theorem dMH_ball_149 : decode c_MH_ball 149 = .ok (.iaload, 1) := by decide +kernel
theorem dMH_ball_150 : decode c_MH_ball 150 = .ok (.iastore, 1) := by decide +kernel
theorem dMH_ball_151 : decode c_MH_ball 151 = .ok (.aload_n 0, 1) := by decide +kernel
theorem dMH_ball_152 : decode c_MH_ball 152 = .ok (.getfield 51, 3) := by decide +kernel
theorem dMH_ball_155 : decode c_MH_ball 155 = .ok (.iload 5, 2) := by decide +kernel
theorem dMH_ball_157 : decode c_MH_ball 157 = .ok (.lload_n 2, 1) := by decide +kernel
theorem dMH_ball_158 : decode c_MH_ball 158 = .ok (.iload 4, 2) := by decide +kernel
theorem dMH_ball_160 : decode c_MH_ball 160 = .ok (.getstatic 126, 3) := by decide +kernel
theorem dMH_ball_163 : decode c_MH_ball 163 = .ok (.aload_n 0, 1) := by decide +kernel
theorem dMH_ball_164 : decode c_MH_ball 164 = .ok (.getfield 103, 3) := by decide +kernel
theorem dMH_ball_167 : decode c_MH_ball 167 = .ok (.iaload, 1) := by decide +kernel
theorem dMH_ball_168 : decode c_MH_ball 168 = .ok (.iadd, 1) := by decide +kernel
theorem dMH_ball_169 : decode c_MH_ball 169 = .ok (.sipush 256, 3) := by decide +kernel
theorem dMH_ball_172 : decode c_MH_ball 172 = .ok (.isub, 1) := by decide +kernel
theorem dMH_ball_173 : decode c_MH_ball 173 = .ok (.lushr, 1) := by decide +kernel
theorem dMH_ball_174 : decode c_MH_ball 174 = .ok (.lconst 1, 1) := by decide +kernel
theorem dMH_ball_175 : decode c_MH_ball 175 = .ok (.land, 1) := by decide +kernel
theorem dMH_ball_176 : decode c_MH_ball 176 = .ok (.lconst 1, 1) := by decide +kernel
theorem dMH_ball_177 : decode c_MH_ball 177 = .ok (.lcmp, 1) := by decide +kernel
theorem dMH_ball_178 : decode c_MH_ball 178 = .ok (.ifCond .ne 7, 3) := by decide +kernel
theorem dMH_ball_181 : decode c_MH_ball 181 = .ok (.iconst (-1), 1) := by decide +kernel
theorem dMH_ball_182 : decode c_MH_ball 182 = .ok (.goto 4, 3) := by decide +kernel
theorem dMH_ball_185 : decode c_MH_ball 185 = .ok (.iconst 1, 1) := by decide +kernel
theorem dMH_ball_186 : decode c_MH_ball 186 = .ok (.iastore, 1) := by decide +kernel
theorem dMH_ball_187 : decode c_MH_ball 187 = .ok (.iinc 4 1, 3) := by decide +kernel
theorem dMH_ball_190 : decode c_MH_ball 190 = .ok (.goto (-89), 3) := by decide +kernel
theorem dMH_ball_193 : decode c_MH_ball 193 = .ok (.return_, 1) := by decide +kernel
def M_MH_ball_0 (k : Nat) : Prop := k = 172 ∨ k = 368 ∨ (0 : Nat) = 1
noncomputable def F_MH_ball_0_L3 (y21 : Int64) (i23 : Nat) (kk : Nat → Sto → Sto) : Nat → Nat → Sto → Sto
  | 0, jj21, s27 => bnd (sI s27 368 i23 (s27.1 368 jj21)) fun s28 => bnd ((s28.1 225 23).toNatClampNeg) fun z24 => if (lg_cmp (((y21.toUInt64 >>> (((nI (i23 + 39)) - (nI 256)).toInt64.toUInt64 &&& Int64.toUInt64 63)).toInt64) &&& 1) 1) = 0 then bnd (sI s28 368 jj21 (-1)) fun s30 => kk (i23 + 1) s30 else bnd (sI s28 368 jj21 (nI 1)) fun s29 => kk (i23 + 1) s29
  | n24 + 1, jj21, s27 => if jj21 ≤ i23 then bnd (sI s27 368 i23 (s27.1 368 jj21)) fun s31 => bnd ((s31.1 225 23).toNatClampNeg) fun z25 => if (lg_cmp (((y21.toUInt64 >>> (((nI (i23 + 39)) - (nI 256)).toInt64.toUInt64 &&& Int64.toUInt64 63)).toInt64) &&& 1) 1) = 0 then bnd (sI s31 368 jj21 (-1)) fun s33 => kk (i23 + 1) s33 else bnd (sI s31 368 jj21 (nI 1)) fun s32 => kk (i23 + 1) s32 else bnd (F_MS_next  s27) fun q22 => bnd (q22.1.toNatClampNeg) fun z26 => F_MH_ball_0_L3 y21 i23 kk n24 z26 q22.2
noncomputable def E_MH_ball_0_L3 (y21 : Int64) (i23 : Nat) (ke : Nat → Sto → Prop) : Nat → Nat → Sto → Prop
  | 0, jj21, s27 => (jj21 ≤ i23) ∧ (bnd (sI s27 368 i23 (s27.1 368 jj21)) fun s28 => bnd ((s28.1 225 23).toNatClampNeg) fun z24 => if (lg_cmp (((y21.toUInt64 >>> (((nI (i23 + 39)) - (nI 256)).toInt64.toUInt64 &&& Int64.toUInt64 63)).toInt64) &&& 1) 1) = 0 then bnd (sI s28 368 jj21 (-1)) fun s30 => ke (i23 + 1) s30 else bnd (sI s28 368 jj21 (nI 1)) fun s29 => ke (i23 + 1) s29)
  | n24 + 1, jj21, s27 => if jj21 ≤ i23 then bnd (sI s27 368 i23 (s27.1 368 jj21)) fun s31 => bnd ((s31.1 225 23).toNatClampNeg) fun z25 => if (lg_cmp (((y21.toUInt64 >>> (((nI (i23 + 39)) - (nI 256)).toInt64.toUInt64 &&& Int64.toUInt64 63)).toInt64) &&& 1) 1) = 0 then bnd (sI s31 368 jj21 (-1)) fun s33 => ke (i23 + 1) s33 else bnd (sI s31 368 jj21 (nI 1)) fun s32 => ke (i23 + 1) s32 else bnd (F_MS_next  s27) fun q22 => bnd (q22.1.toNatClampNeg) fun z26 => E_MH_ball_0_L3 y21 i23 ke n24 z26 q22.2
noncomputable def F_MH_ball_0_L2 (y21 : Int64) : Nat → Nat → Sto → Sto
  | 0, i23, s26 => s26
  | n23 + 1, i23, s26 => bnd (F_MS_next  s26) fun q21 => bnd (q21.1.toNatClampNeg) fun z23 => F_MH_ball_0_L3 y21 i23 (F_MH_ball_0_L2 y21 n23) fuelM z23 q21.2
noncomputable def E_MH_ball_0_L2 (y21 : Int64) : Nat → Nat → Sto → Prop
  | 0, i23, s26 => True
  | n23 + 1, i23, s26 => bnd (F_MS_next  s26) fun q21 => bnd (q21.1.toNatClampNeg) fun z23 => E_MH_ball_0_L3 y21 i23 (E_MH_ball_0_L2 y21 n23) fuelM z23 q21.2
noncomputable def F_MH_ball_0_L1 (y21 : Int64) : Nat → Nat → Sto → Sto
  | 0, i22, s25 => bnd ((s25.1 225 23).toNatClampNeg) fun z22 => F_MH_ball_0_L2 y21 (256 - 217) 217 s25
  | n22 + 1, i22, s25 => bnd (sI s25 368 i22 (nI 0)) fun s34 => F_MH_ball_0_L1 y21 n22 (i22 + 1) s34
noncomputable def E_MH_ball_0_L1 (y21 : Int64) : Nat → Nat → Sto → Prop
  | 0, i22, s25 => bnd ((s25.1 225 23).toNatClampNeg) fun z22 => E_MH_ball_0_L2 y21 (256 - 217) 217 s25
  | n22 + 1, i22, s25 => bnd (sI s25 368 i22 (nI 0)) fun s34 => E_MH_ball_0_L1 y21 n22 (i22 + 1) s34
noncomputable def F_MH_ball_0_L0 : Nat → Nat → Int64 → Sto → Sto
  | 0, i21, y21, s24 => F_MH_ball_0_L1 y21 256 0 s24
  | n21 + 1, i21, y21, s24 => bnd (F_MS_next  s24) fun q23 => bnd (q23.1.toNatClampNeg) fun z27 => bnd ((y21 ||| (((nI z27).toInt64) <<< ((nI (8 * i21)).toInt64 &&& 63)))) fun y22 => F_MH_ball_0_L0  n21 (i21 + 1) y22 q23.2
noncomputable def E_MH_ball_0_L0 : Nat → Nat → Int64 → Sto → Prop
  | 0, i21, y21, s24 => E_MH_ball_0_L1 y21 256 0 s24
  | n21 + 1, i21, y21, s24 => bnd (F_MS_next  s24) fun q23 => bnd (q23.1.toNatClampNeg) fun z27 => bnd ((y21 ||| (((nI z27).toInt64) <<< ((nI (8 * i21)).toInt64 &&& 63)))) fun y22 => E_MH_ball_0_L0  n21 (i21 + 1) y22 q23.2
noncomputable def F_MH_ball_0 (pb : Nat) (s : Sto) : Sto := bnd (F_MS_shake  s) fun s21 => bnd ((s21.1 225 30).toNatClampNeg) fun z21 => bnd (F_MS_puts pb 64 0 32 s21) fun s22 => bnd (F_MS_end  s22) fun s23 => F_MH_ball_0_L0 8 0 0 s23
noncomputable def E_MH_ball_0 (pb : Nat) (s : Sto) : Prop := bnd (F_MS_shake  s) fun s21 => bnd ((s21.1 225 30).toNatClampNeg) fun z21 => bnd (F_MS_puts pb 64 0 32 s21) fun s22 => bnd (F_MS_end  s22) fun s23 => E_MH_ball_0_L0 8 0 0 s23
set_option maxHeartbeats 8000000 in
set_option maxRecDepth 100000 in
theorem N_MH_ball_0 (l : Launch) (g : Gd) (sz : Nat) (T : TyN) (s : Sto) (pl : va_W) (hO : okn g T s pl) (hU : inj T) (h0 b : Nat) (pb : Nat) (k_h0 : T h0 = some 225) (k_b : T b = some pb) (n_b : nsp pb = (1, 64, [])) (e_c0 : s.1 225 23 = nI 0) (e_c1 : s.1 225 24 = nI 4) (e_c2 : s.1 225 25 = nI 4) (e_c3 : s.1 225 26 = nI 2) (e_c4 : s.1 225 27 = nI 131072) (e_c5 : s.1 225 28 = nI 95232) (e_c6 : s.1 225 29 = nI 78) (e_c7 : s.1 225 30 = nI 32) (hE : E_MH_ball_0 pb s)  : Met l y_MH_ball w_MH_ball ({ frames := 4, cells := 0, slots := 0, locals := 90 } : Room) (va_Pc [.ref h0, .ref b] (pr (en g) g.1 vcl sz ([] ++ pl))) (va_Qv (fun (u : (Sto) × va_W) => (u.1 = F_MH_ball_0 pb s ∧ frm (M_MH_ball_0) s u.1 ∧ True) ∧ okn g T u.1 u.2) (po g.1 vcl (va_A ([] ++ pl) sz) (fun (u : (Sto) × va_W) => [] ++ u.2)) (va_A ([] ++ pl) sz)) 0 0 (va_A ([] ++ pl) sz) := by
  refine mc_entry (cc := c_MH_ball) (maxL := 6) (ret := none) (by decide) rfl (Nat.le_of_ble_eq_true rfl) ?_
  intro p e s0 m args below meth c ls F hr hlk hnm hsz hP hD hEn hA hl
  obtain ⟨hx, hb, hml, hown, hts⟩ := id F
  have hK := hEn.1
  generalize va_A ([] ++ pl) sz = A at hD hEn hA ⊢
  have hS : va_S A s0.heap s0.heap [] := va_S.rf
  have hl : lv_has ls 6 [(0, .ref h0), (1, .ref b)] := hl
  have hR : F_MH_ball_0 pb s = F_MH_ball_0 pb s := rfl
  have hF : frm (M_MH_ball_0) s s := frm_rf
  have ne_172_pb : 172 ≠ pb := nsp_ne (p := 172) rfl n_b (show (5 : Nat) ≠ 1 by decide)
  have ne_225_pb : 225 ≠ pb := nsp_ne (p := 225) rfl n_b (show (5 : Nat) ≠ 1 by decide)
  refine lv_aload_n hx hb dMH_ball_0 rfl (lv_at hl 0 rfl) ?_
  refine nw_get (C := "LatticeKeysModel$Hands") (TT := T_MH) (N := 31) hx hb hts (wg_ft i_MH) hown hK hO k_h0 (kn := 225) (ci := 12) (fl := [(3, 172), (3, 181), (3, 226), (3, 291), (3, 299), (3, 308), (3, 317), (3, 326), (3, 334), (3, 342), (3, 350), (3, 359), (3, 368), (3, 369), (3, 370), (3, 371), (3, 372), (3, 373), (3, 374), (3, 375), (3, 376), (3, 377), (3, 378), (0, 0), (0, 0), (0, 0), (0, 0), (0, 0), (0, 0), (0, 0), (0, 0)]) rfl hP rfl 0 (by decide) (hts _ (wg_t kw_1432)) (fun _ h9 => h9) (cd := (3, 172)) rfl dMH_ball_1 (fun v21 hv21 => ?_)
  obtain ⟨r21, rfl, kr21⟩ := (show ∃ r : Nat, v21 = .ref r ∧ T r = some 172 from hv21)
  refine mp_v (cx := []) (wr := []) hP hD hS hA [] [] rfl rfl rfl (by decide) (va_runV (As := []) (rest := []) F (N_MS_shake l g _ T s pl hO hU r21 kr21) (cwV 0 hts (wg_app (wg_c kw_1718 (wg_c kw_1661 (wg_c kw_1662 (wg_c kw_10 wg_n)))) kw_1663) rfl rfl rfl (by decide +kernel) ⟨by decide, by decide⟩) (pn_W "LatticeKeysModel$Sponge" (en_ok g) (ci := 9) (kn := 172) (fl := [(3, 173), (3, 174), (3, 175), (3, 176), (3, 177), (0, 0), (0, 0), (0, 0)]) hK hO kr21 rfl hP hD hS hA hEn [] rfl rfl rfl) rfl rfl hl.1 rfl (lv_room (Nat.le_of_ble_eq_true rfl)) dMH_ball_4 ⟨by omega, by omega⟩) (fun  u21 H locs hu21 hP hD hS => ?_)
  obtain ⟨s21, pl⟩ := u21
  obtain ⟨⟨eq21, hFc21, ⟨x21, hx_21, hb_21⟩, ⟨x22, hx_22, hb_22⟩, -⟩, hO⟩ := hu21
  have hO : okn g T s21 pl := hO
  have hP : va_P g.1 vcl ([] ++ pl) _ := hP
  have hD : va_D _ ([] ++ pl) := hD
  have hFc21 : frm (M_MS_shake) s s21 := hFc21
  have hb_21 : x21 = 0 := hb_21
  have hb_22 : x22 = 136 := hb_22
  replace hR := bnd_step hR eq21
  first | rw [bnd_eq, ← eq21] at hE | replace hE := bndP_step hE eq21
  have hF := frm_tr hF hFc21 (fun k hk => by unfold M_MS_shake at hk; unfold M_MH_ball_0; omega)
  have hf21 : s21.1 225 23 = nI 0 := fc_F e_c0 hFc21 (by unfold M_MS_shake; omega)
  have hf22 : s21.1 225 24 = nI 4 := fc_F e_c1 hFc21 (by unfold M_MS_shake; omega)
  have hf23 : s21.1 225 25 = nI 4 := fc_F e_c2 hFc21 (by unfold M_MS_shake; omega)
  have hf24 : s21.1 225 26 = nI 2 := fc_F e_c3 hFc21 (by unfold M_MS_shake; omega)
  have hf25 : s21.1 225 27 = nI 131072 := fc_F e_c4 hFc21 (by unfold M_MS_shake; omega)
  have hf26 : s21.1 225 28 = nI 95232 := fc_F e_c5 hFc21 (by unfold M_MS_shake; omega)
  have hf27 : s21.1 225 29 = nI 78 := fc_F e_c6 hFc21 (by unfold M_MS_shake; omega)
  have hf28 : s21.1 225 30 = nI 32 := fc_F e_c7 hFc21 (by unfold M_MS_shake; omega)
  refine W.widen (k := 0) (n := 0) (by omega) (by omega) ?_
  refine lv_aload_n hx hb dMH_ball_7 rfl (lv_at hl 0 rfl) ?_
  refine nw_get (C := "LatticeKeysModel$Hands") (TT := T_MH) (N := 31) hx hb hts (wg_ft i_MH) hown hK hO k_h0 (kn := 225) (ci := 12) (fl := [(3, 172), (3, 181), (3, 226), (3, 291), (3, 299), (3, 308), (3, 317), (3, 326), (3, 334), (3, 342), (3, 350), (3, 359), (3, 368), (3, 369), (3, 370), (3, 371), (3, 372), (3, 373), (3, 374), (3, 375), (3, 376), (3, 377), (3, 378), (0, 0), (0, 0), (0, 0), (0, 0), (0, 0), (0, 0), (0, 0), (0, 0)]) rfl hP rfl 0 (by decide) (hts _ (wg_t kw_1432)) (fun _ h9 => h9) (cd := (3, 172)) rfl dMH_ball_8 (fun v22 hv22 => ?_)
  obtain ⟨r22, rfl, kr22⟩ := (show ∃ r : Nat, v22 = .ref r ∧ T r = some 172 from hv22)
  refine lv_aload_n hx hb dMH_ball_11 rfl (lv_at hl 1 rfl) ?_
  refine lv_iconst (v := nI 0) hx hb dMH_ball_12 (by decide) ?_
  refine lv_aload_n hx hb dMH_ball_13 rfl (lv_at hl 0 rfl) ?_
  refine nw_get (C := "LatticeKeysModel$Hands") (TT := T_MH) (N := 31) hx hb hts (wg_ft i_MH) hown hK hO k_h0 (kn := 225) (ci := 12) (fl := [(3, 172), (3, 181), (3, 226), (3, 291), (3, 299), (3, 308), (3, 317), (3, 326), (3, 334), (3, 342), (3, 350), (3, 359), (3, 368), (3, 369), (3, 370), (3, 371), (3, 372), (3, 373), (3, 374), (3, 375), (3, 376), (3, 377), (3, 378), (0, 0), (0, 0), (0, 0), (0, 0), (0, 0), (0, 0), (0, 0), (0, 0)]) rfl hP rfl 30 (by decide) (hts _ (wg_t kw_1462)) (fun _ h9 => h9) (cd := (0, 0)) rfl dMH_ball_14 (fun v23 hv23 => ?_)
  obtain rfl := (show v23 = .int (s21.1 225 30) from hv23)
  obtain ⟨z21, ez21, hz21, hz22⟩ := cl_of (b := 2147483648) hf28 (by omega) (by decide)
  replace hR := bnd_step hR ez21
  first | rw [bnd_eq, ← ez21] at hE | replace hE := bndP_step hE ez21
  refine mi_as hz21 ?_
  subst hz22
  refine mp_v (cx := []) (wr := []) hP hD hS hA [] [] rfl rfl rfl (by decide) (va_runV (As := [.ref b, .int (nI 0), .int (nI 32)]) (rest := []) F (N_MS_puts l g _ T s21 pl hO hU r22 b pb 64 0 32 x21 x22 kr22 k_b n_b hx_21 hx_22 (by omega) (by omega) (by omega) (by omega)) (cwV 3 hts (wg_app (wg_c kw_1719 (wg_c kw_1612 (wg_c kw_1613 (wg_c kw_10 wg_n)))) kw_1614) rfl rfl rfl (by decide +kernel) ⟨by decide, by decide⟩) (pn_W "LatticeKeysModel$Sponge" (en_ok g) (ci := 9) (kn := 172) (fl := [(3, 173), (3, 174), (3, 175), (3, 176), (3, 177), (0, 0), (0, 0), (0, 0)]) hK hO kr22 rfl hP hD hS hA hEn [] rfl rfl rfl) rfl rfl hl.1 rfl (lv_room (Nat.le_of_ble_eq_true rfl)) dMH_ball_17 ⟨by omega, by omega⟩) (fun  u22 H locs hu22 hP hD hS => ?_)
  obtain ⟨s22, pl⟩ := u22
  obtain ⟨⟨eq22, hFc22, ⟨x24, hx_24, hb_24⟩, ⟨x25, hx_25, hb_25⟩, -⟩, hO⟩ := hu22
  have hO : okn g T s22 pl := hO
  have hP : va_P g.1 vcl ([] ++ pl) _ := hP
  have hD : va_D _ ([] ++ pl) := hD
  have hFc22 : frm (M_MS_puts) s21 s22 := hFc22
  have hb_24 : x24 < x22 := hb_24
  have hb_25 : x25 = x22 := hb_25
  replace hR := bnd_step hR eq22
  first | rw [bnd_eq, ← eq22] at hE | replace hE := bndP_step hE eq22
  have hF := frm_tr hF hFc22 (fun k hk => by unfold M_MS_puts at hk; unfold M_MH_ball_0; omega)
  have hf29 : s22.1 225 23 = nI 0 := fc_F hf21 hFc22 (by unfold M_MS_puts; omega)
  have hf30 : s22.1 225 24 = nI 4 := fc_F hf22 hFc22 (by unfold M_MS_puts; omega)
  have hf31 : s22.1 225 25 = nI 4 := fc_F hf23 hFc22 (by unfold M_MS_puts; omega)
  have hf32 : s22.1 225 26 = nI 2 := fc_F hf24 hFc22 (by unfold M_MS_puts; omega)
  have hf33 : s22.1 225 27 = nI 131072 := fc_F hf25 hFc22 (by unfold M_MS_puts; omega)
  have hf34 : s22.1 225 28 = nI 95232 := fc_F hf26 hFc22 (by unfold M_MS_puts; omega)
  have hf35 : s22.1 225 29 = nI 78 := fc_F hf27 hFc22 (by unfold M_MS_puts; omega)
  have hf36 : s22.1 225 30 = nI 32 := fc_F hf28 hFc22 (by unfold M_MS_puts; omega)
  refine W.widen (k := 0) (n := 0) (by omega) (by omega) ?_
  refine lv_aload_n hx hb dMH_ball_20 rfl (lv_at hl 0 rfl) ?_
  refine nw_get (C := "LatticeKeysModel$Hands") (TT := T_MH) (N := 31) hx hb hts (wg_ft i_MH) hown hK hO k_h0 (kn := 225) (ci := 12) (fl := [(3, 172), (3, 181), (3, 226), (3, 291), (3, 299), (3, 308), (3, 317), (3, 326), (3, 334), (3, 342), (3, 350), (3, 359), (3, 368), (3, 369), (3, 370), (3, 371), (3, 372), (3, 373), (3, 374), (3, 375), (3, 376), (3, 377), (3, 378), (0, 0), (0, 0), (0, 0), (0, 0), (0, 0), (0, 0), (0, 0), (0, 0)]) rfl hP rfl 0 (by decide) (hts _ (wg_t kw_1432)) (fun _ h9 => h9) (cd := (3, 172)) rfl dMH_ball_21 (fun v24 hv24 => ?_)
  obtain ⟨r23, rfl, kr23⟩ := (show ∃ r : Nat, v24 = .ref r ∧ T r = some 172 from hv24)
  refine mp_v (cx := []) (wr := []) hP hD hS hA [] [] rfl rfl rfl (by decide) (va_runV (As := []) (rest := []) F (N_MS_end l g _ T s22 pl hO hU r23 x24 x25 kr23 hx_24 hx_25 (by omega) (by omega)) (cwV 0 hts (wg_app (wg_c kw_1721 (wg_c kw_1634 (wg_c kw_1635 (wg_c kw_10 wg_n)))) kw_1636) rfl rfl rfl (by decide +kernel) ⟨by decide, by decide⟩) (pn_W "LatticeKeysModel$Sponge" (en_ok g) (ci := 9) (kn := 172) (fl := [(3, 173), (3, 174), (3, 175), (3, 176), (3, 177), (0, 0), (0, 0), (0, 0)]) hK hO kr23 rfl hP hD hS hA hEn [] rfl rfl rfl) rfl rfl hl.1 rfl (lv_room (Nat.le_of_ble_eq_true rfl)) dMH_ball_24 ⟨by omega, by omega⟩) (fun  u23 H locs hu23 hP hD hS => ?_)
  obtain ⟨s23, pl⟩ := u23
  obtain ⟨⟨eq23, hFc23, ⟨x27, hx_27, hb_27⟩, ⟨x28, hx_28, hb_28⟩, -⟩, hO⟩ := hu23
  have hO : okn g T s23 pl := hO
  have hP : va_P g.1 vcl ([] ++ pl) _ := hP
  have hD : va_D _ ([] ++ pl) := hD
  have hFc23 : frm (M_MS_end) s22 s23 := hFc23
  have hb_27 : x27 = 0 := hb_27
  have hb_28 : x28 = x25 := hb_28
  replace hR := bnd_step hR eq23
  first | rw [bnd_eq, ← eq23] at hE | replace hE := bndP_step hE eq23
  have hF := frm_tr hF hFc23 (fun k hk => by unfold M_MS_end at hk; unfold M_MH_ball_0; omega)
  have hf37 : s23.1 225 23 = nI 0 := fc_F hf29 hFc23 (by unfold M_MS_end; omega)
  have hf38 : s23.1 225 24 = nI 4 := fc_F hf30 hFc23 (by unfold M_MS_end; omega)
  have hf39 : s23.1 225 25 = nI 4 := fc_F hf31 hFc23 (by unfold M_MS_end; omega)
  have hf40 : s23.1 225 26 = nI 2 := fc_F hf32 hFc23 (by unfold M_MS_end; omega)
  have hf41 : s23.1 225 27 = nI 131072 := fc_F hf33 hFc23 (by unfold M_MS_end; omega)
  have hf42 : s23.1 225 28 = nI 95232 := fc_F hf34 hFc23 (by unfold M_MS_end; omega)
  have hf43 : s23.1 225 29 = nI 78 := fc_F hf35 hFc23 (by unfold M_MS_end; omega)
  have hf44 : s23.1 225 30 = nI 32 := fc_F hf36 hFc23 (by unfold M_MS_end; omega)
  refine W.widen (k := 0) (n := 0) (by omega) (by omega) ?_
  refine lv_lconst (v := 0) hx hb dMH_ball_27 (by decide) ?_
  refine lv_lstore_n (lv' := [(2, .long 0), (0, .ref h0), (1, .ref b)]) hx hb dMH_ball_28 rfl hl (by decide) rfl (fun ls hl => ?_)
  refine lv_iconst (v := nI 0) hx hb dMH_ball_29 (by decide) ?_
  refine lv_istore (lv' := [(4, .int (nI 0)), (2, .long 0), (0, .ref h0), (1, .ref b)]) hx hb dMH_ball_30 hl (by decide) rfl (fun ls hl => ?_)
  have lp21 : ∀ (n21 : Nat) (i21 : Nat) (y21 : Int64) (s24 : Sto) (ps21 : Nat) (pl : va_W) (ls : Array Slot) (H : Heap) (locs : List Loc), n21 + i21 = 8 → (ps21 ≤ 136) → frm (M_MH_ball_0) s s24 → s24.1 225 23 = nI 0 → s24.1 225 24 = nI 4 → s24.1 225 25 = nI 4 → s24.1 225 26 = nI 2 → s24.1 225 27 = nI 131072 → s24.1 225 28 = nI 95232 → s24.1 225 29 = nI 78 → s24.1 225 30 = nI 32 → s24.1 172 6 = nI ps21 → s24.1 172 5 = nI x28 → E_MH_ball_0_L0 n21 i21 y21 s24 → F_MH_ball_0 pb s = F_MH_ball_0_L0 n21 i21 y21 s24 → lv_has ls 6 [(4, .int (nI i21)), (2, .long y21), (0, .ref h0)] → okn g T s24 pl → va_P g.1 vcl ([] ++ pl) H → va_D A ([] ++ pl) → va_S A s0.heap H locs → W p l e ({ frames := 4, cells := 0, slots := 0, locals := 90 } : Room) s0 m args below meth c H locs 0 0 (MQ below (va_Qv (fun (u : (Sto) × va_W) => (u.1 = F_MH_ball_0 pb s ∧ frm (M_MH_ball_0) s u.1 ∧ True) ∧ okn g T u.1 u.2) (po g.1 vcl A (fun (u : (Sto) × va_W) => [] ++ u.2)) A) args s0 0 0 A) (F0 m 32 ls []) := by
    intro n21
    induction n21 with
    | zero =>
      intro i21 y21 s24 ps21 pl ls H locs hm21 hi21 hF hf45 hf46 hf47 hf48 hf49 hf50 hf51 hf52 hf53 hf54 hE hR hl hO hP hD hS
      refine lv_iload hx hb dMH_ball_32 (lv_at hl 0 rfl) ?_
      refine lv_bipush (v := nI 8) hx hb dMH_ball_34 (by decide) ?_
      refine mi_ge (tgt := 62) hx hb dMH_ball_36 (by decide) (by omega) (by omega) (fun h21 => ?_) (fun h21 => absurd h21 (by omega))
      refine lv_iconst (v := nI 0) hx hb dMH_ball_62 (by decide) ?_
      refine lv_istore (lv' := [(4, .int (nI 0)), (2, .long y21), (0, .ref h0)]) hx hb dMH_ball_63 hl (by decide) rfl (fun ls hl => ?_)
      have lp22 : ∀ (n22 : Nat) (i22 : Nat) (s25 : Sto) (ps22 : Nat) (pl : va_W) (ls : Array Slot) (H : Heap) (locs : List Loc), n22 + i22 = 256 → (ps22 ≤ 136) → frm (M_MH_ball_0) s s25 → s25.1 225 23 = nI 0 → s25.1 225 24 = nI 4 → s25.1 225 25 = nI 4 → s25.1 225 26 = nI 2 → s25.1 225 27 = nI 131072 → s25.1 225 28 = nI 95232 → s25.1 225 29 = nI 78 → s25.1 225 30 = nI 32 → s25.1 172 6 = nI ps22 → s25.1 172 5 = nI x28 → E_MH_ball_0_L1 y21 n22 i22 s25 → F_MH_ball_0 pb s = F_MH_ball_0_L1 y21 n22 i22 s25 → lv_has ls 6 [(4, .int (nI i22)), (2, .long y21), (0, .ref h0)] → okn g T s25 pl → va_P g.1 vcl ([] ++ pl) H → va_D A ([] ++ pl) → va_S A s0.heap H locs → W p l e ({ frames := 4, cells := 0, slots := 0, locals := 90 } : Room) s0 m args below meth c H locs 0 0 (MQ below (va_Qv (fun (u : (Sto) × va_W) => (u.1 = F_MH_ball_0 pb s ∧ frm (M_MH_ball_0) s u.1 ∧ True) ∧ okn g T u.1 u.2) (po g.1 vcl A (fun (u : (Sto) × va_W) => [] ++ u.2)) A) args s0 0 0 A) (F0 m 65 ls []) := by
        intro n22
        induction n22 with
        | zero =>
          intro i22 s25 ps22 pl ls H locs hm22 hi22 hF hf55 hf56 hf57 hf58 hf59 hf60 hf61 hf62 hf63 hf64 hE hR hl hO hP hD hS
          refine lv_iload hx hb dMH_ball_65 (lv_at hl 0 rfl) ?_
          refine lv_sipush (v := nI 256) hx hb dMH_ball_67 (by decide) ?_
          refine mi_ge (tgt := 87) hx hb dMH_ball_70 (by decide) (by omega) (by omega) (fun h22 => ?_) (fun h22 => absurd h22 (by omega))
          refine lv_sipush (v := nI 256) hx hb dMH_ball_87 (by decide) ?_
          refine va_gets hx hb (hEn.2.1 26 _ rfl).1 hS hown (hts _ (wg_t kw_1716)) (fun _ h9 => h9) dMH_ball_90 ?_
          refine lv_aload_n hx hb dMH_ball_93 rfl (lv_at hl 2 rfl) ?_
          refine nw_get (C := "LatticeKeysModel$Hands") (TT := T_MH) (N := 31) hx hb hts (wg_ft i_MH) hown hK hO k_h0 (kn := 225) (ci := 12) (fl := [(3, 172), (3, 181), (3, 226), (3, 291), (3, 299), (3, 308), (3, 317), (3, 326), (3, 334), (3, 342), (3, 350), (3, 359), (3, 368), (3, 369), (3, 370), (3, 371), (3, 372), (3, 373), (3, 374), (3, 375), (3, 376), (3, 377), (3, 378), (0, 0), (0, 0), (0, 0), (0, 0), (0, 0), (0, 0), (0, 0), (0, 0)]) rfl hP rfl 23 (by decide) (hts _ (wg_t kw_1455)) (fun _ h9 => h9) (cd := (0, 0)) rfl dMH_ball_94 (fun v25 hv25 => ?_)
          obtain rfl := (show v25 = .int (s25.1 225 23) from hv25)
          obtain ⟨z22, ez22, hz23, hz24⟩ := cl_of (b := 2147483648) hf55 (by omega) (by decide)
          replace hR := bnd_step hR ez22
          first | rw [bnd_eq, ← ez22] at hE | replace hE := bndP_step hE ez22
          refine mi_as hz23 ?_
          subst hz24
          refine va_ti (v := .int (nI 39)) hx hb (hEn.2.1 26 _ rfl).2 hS (vp_in_nI (by decide) (by decide)) (by decide +kernel) dMH_ball_97 ?_
          refine mi_isub hx hb dMH_ball_98 (by omega) ?_
          refine mi_as (show nI (256 - 39) = nI 217 from rfl) ?_
          refine lv_istore (lv' := [(4, .int (nI 217)), (2, .long y21), (0, .ref h0)]) hx hb dMH_ball_99 hl (by decide) rfl (fun ls hl => ?_)
          have lp23 : ∀ (n23 : Nat) (i23 : Nat) (s26 : Sto) (ps23 : Nat) (pl : va_W) (ls : Array Slot) (H : Heap) (locs : List Loc), n23 + i23 = 256 → (ps23 ≤ 136) → (217 ≤ i23) → frm (M_MH_ball_0) s s26 → s26.1 225 23 = nI 0 → s26.1 225 24 = nI 4 → s26.1 225 25 = nI 4 → s26.1 225 26 = nI 2 → s26.1 225 27 = nI 131072 → s26.1 225 28 = nI 95232 → s26.1 225 29 = nI 78 → s26.1 225 30 = nI 32 → s26.1 172 6 = nI ps23 → s26.1 172 5 = nI x28 → E_MH_ball_0_L2 y21 n23 i23 s26 → F_MH_ball_0 pb s = F_MH_ball_0_L2 y21 n23 i23 s26 → lv_has ls 6 [(4, .int (nI i23)), (2, .long y21), (0, .ref h0)] → okn g T s26 pl → va_P g.1 vcl ([] ++ pl) H → va_D A ([] ++ pl) → va_S A s0.heap H locs → W p l e ({ frames := 4, cells := 0, slots := 0, locals := 90 } : Room) s0 m args below meth c H locs 0 0 (MQ below (va_Qv (fun (u : (Sto) × va_W) => (u.1 = F_MH_ball_0 pb s ∧ frm (M_MH_ball_0) s u.1 ∧ True) ∧ okn g T u.1 u.2) (po g.1 vcl A (fun (u : (Sto) × va_W) => [] ++ u.2)) A) args s0 0 0 A) (F0 m 101 ls []) := by
            intro n23
            induction n23 with
            | zero =>
              intro i23 s26 ps23 pl ls H locs hm23 hi23 hi24 hF hf65 hf66 hf67 hf68 hf69 hf70 hf71 hf72 hf73 hf74 hE hR hl hO hP hD hS
              refine lv_iload hx hb dMH_ball_101 (lv_at hl 0 rfl) ?_
              refine lv_sipush (v := nI 256) hx hb dMH_ball_103 (by decide) ?_
              refine mi_ge (tgt := 193) hx hb dMH_ball_106 (by decide) (by omega) (by omega) (fun h23 => ?_) (fun h23 => absurd h23 (by omega))
              exact mp_vret hx hb hr hlk hP hD hS (s26, pl) ⟨⟨hR.symm, hF, trivial⟩, hO⟩ [] rfl rfl rfl (by omega) (by omega) dMH_ball_193
            | succ n23 ih23 =>
              intro i23 s26 ps23 pl ls H locs hm23 hi23 hi24 hF hf75 hf76 hf77 hf78 hf79 hf80 hf81 hf82 hf83 hf84 hE hR hl hO hP hD hS
              refine lv_iload hx hb dMH_ball_101 (lv_at hl 0 rfl) ?_
              refine lv_sipush (v := nI 256) hx hb dMH_ball_103 (by decide) ?_
              refine mi_ge (tgt := 193) hx hb dMH_ball_106 (by decide) (by omega) (by omega) (fun h24 => absurd h24 (by omega)) (fun h24 => ?_)
              refine lv_aload_n hx hb dMH_ball_109 rfl (lv_at hl 2 rfl) ?_
              refine nw_get (C := "LatticeKeysModel$Hands") (TT := T_MH) (N := 31) hx hb hts (wg_ft i_MH) hown hK hO k_h0 (kn := 225) (ci := 12) (fl := [(3, 172), (3, 181), (3, 226), (3, 291), (3, 299), (3, 308), (3, 317), (3, 326), (3, 334), (3, 342), (3, 350), (3, 359), (3, 368), (3, 369), (3, 370), (3, 371), (3, 372), (3, 373), (3, 374), (3, 375), (3, 376), (3, 377), (3, 378), (0, 0), (0, 0), (0, 0), (0, 0), (0, 0), (0, 0), (0, 0), (0, 0)]) rfl hP rfl 0 (by decide) (hts _ (wg_t kw_1432)) (fun _ h9 => h9) (cd := (3, 172)) rfl dMH_ball_110 (fun v26 hv26 => ?_)
              obtain ⟨r24, rfl, kr24⟩ := (show ∃ r : Nat, v26 = .ref r ∧ T r = some 172 from hv26)
              refine mp_i (cx := []) (wr := []) hP hD hS hA [] [] rfl rfl rfl (by decide) (va_runV (As := []) (rest := []) F (N_MS_next l g _ T s26 pl hO hU r24 ps23 x28 kr24 hf83 hf84 (by omega) (by omega)) (cwV 0 hts (wg_app (wg_c kw_1728 (wg_c kw_1642 (wg_c kw_1643 (wg_c kw_10 wg_n)))) kw_1644) rfl rfl rfl (by decide +kernel) ⟨by decide, by decide⟩) (pn_W "LatticeKeysModel$Sponge" (en_ok g) (ci := 9) (kn := 172) (fl := [(3, 173), (3, 174), (3, 175), (3, 176), (3, 177), (0, 0), (0, 0), (0, 0)]) hK hO kr24 rfl hP hD hS hA hEn [] rfl rfl rfl) rfl rfl hl.1 rfl (lv_room (Nat.le_of_ble_eq_true rfl)) dMH_ball_113 ⟨by omega, by omega⟩) (fun r25 u24 H locs hu24 hP hD hS => ?_)
              obtain ⟨q21, pl⟩ := u24
              obtain ⟨⟨eq24, rfl, hFc24, ⟨x32, hx_32, hb_32⟩, ⟨x30, hx_30, hb_30⟩, ⟨x31, hx_31, hb_31⟩, -⟩, hO⟩ := hu24
              have hO : okn g T q21.2 pl := hO
              have hP : va_P g.1 vcl ([] ++ pl) _ := hP
              have hD : va_D _ ([] ++ pl) := hD
              have hFc24 : frm (M_MS_next) s26 q21.2 := hFc24
              have hb_30 : x30 ≤ x28 := hb_30
              have hb_31 : x31 = x28 := hb_31
              have hb_32 : x32 < 256 := hb_32
              replace hR := bnd_step hR eq24
              first | rw [bnd_eq, ← eq24] at hE | replace hE := bndP_step hE eq24
              have hF := frm_tr hF hFc24 (fun k hk => by unfold M_MS_next at hk; unfold M_MH_ball_0; omega)
              have hf85 : q21.2.1 225 23 = nI 0 := fc_F hf75 hFc24 (by unfold M_MS_next; omega)
              have hf86 : q21.2.1 225 24 = nI 4 := fc_F hf76 hFc24 (by unfold M_MS_next; omega)
              have hf87 : q21.2.1 225 25 = nI 4 := fc_F hf77 hFc24 (by unfold M_MS_next; omega)
              have hf88 : q21.2.1 225 26 = nI 2 := fc_F hf78 hFc24 (by unfold M_MS_next; omega)
              have hf89 : q21.2.1 225 27 = nI 131072 := fc_F hf79 hFc24 (by unfold M_MS_next; omega)
              have hf90 : q21.2.1 225 28 = nI 95232 := fc_F hf80 hFc24 (by unfold M_MS_next; omega)
              have hf91 : q21.2.1 225 29 = nI 78 := fc_F hf81 hFc24 (by unfold M_MS_next; omega)
              have hf92 : q21.2.1 225 30 = nI 32 := fc_F hf82 hFc24 (by unfold M_MS_next; omega)
              obtain ⟨z23, ez23, hz25, hz26⟩ := cl_of (b := 2147483648) hx_32 (by omega) (by decide)
              replace hR := bnd_step hR ez23
              first | rw [bnd_eq, ← ez23] at hE | replace hE := bndP_step hE ez23
              refine mi_as hz25 ?_
              refine W.widen (k := 0) (n := 0) (by omega) (by omega) ?_
              refine lv_istore (lv' := [(5, .int (nI z23)), (4, .int (nI i23)), (2, .long y21), (0, .ref h0)]) hx hb dMH_ball_116 hl (by decide) rfl (fun ls hl => ?_)
              have lp24 : ∀ (n24 : Nat) (jj21 : Nat) (s27 : Sto) (ps24 : Nat) (pl : va_W) (ls : Array Slot) (H : Heap) (locs : List Loc), 0 = 0 → (jj21 < 256) → (ps24 ≤ 136) → frm (M_MH_ball_0) s s27 → s27.1 225 23 = nI 0 → s27.1 225 24 = nI 4 → s27.1 225 25 = nI 4 → s27.1 225 26 = nI 2 → s27.1 225 27 = nI 131072 → s27.1 225 28 = nI 95232 → s27.1 225 29 = nI 78 → s27.1 225 30 = nI 32 → s27.1 172 6 = nI ps24 → s27.1 172 5 = nI x31 → E_MH_ball_0_L3 y21 i23 (E_MH_ball_0_L2 y21 n23) n24 jj21 s27 → F_MH_ball_0 pb s = F_MH_ball_0_L3 y21 i23 (F_MH_ball_0_L2 y21 n23) n24 jj21 s27 → lv_has ls 6 [(5, .int (nI jj21)), (4, .int (nI i23)), (2, .long y21), (0, .ref h0)] → okn g T s27 pl → va_P g.1 vcl ([] ++ pl) H → va_D A ([] ++ pl) → va_S A s0.heap H locs → W p l e ({ frames := 4, cells := 0, slots := 0, locals := 90 } : Room) s0 m args below meth c H locs 0 0 (MQ below (va_Qv (fun (u : (Sto) × va_W) => (u.1 = F_MH_ball_0 pb s ∧ frm (M_MH_ball_0) s u.1 ∧ True) ∧ okn g T u.1 u.2) (po g.1 vcl A (fun (u : (Sto) × va_W) => [] ++ u.2)) A) args s0 0 0 A) (F0 m 118 ls []) := by
                intro n24
                induction n24 with
                | zero =>
                  intro jj21 s27 ps24 pl ls H locs hm24 hi25 hi26 hF hf93 hf94 hf95 hf96 hf97 hf98 hf99 hf100 hf101 hf102 hE hR hl hO hP hD hS
                  refine lv_iload hx hb dMH_ball_118 (lv_at hl 0 rfl) ?_
                  refine lv_iload hx hb dMH_ball_120 (lv_at hl 1 rfl) ?_
                  refine mi_le (tgt := 137) hx hb dMH_ball_122 (by decide) (by omega) (by omega) (fun h25 => ?_) (fun h25 => absurd h25 (by have h9 : jj21 ≤ i23 := hE.1; omega))
                  replace hE := hE.2
                  refine lv_aload_n hx hb dMH_ball_137 rfl (lv_at hl 3 rfl) ?_
                  refine nw_get (C := "LatticeKeysModel$Hands") (TT := T_MH) (N := 31) hx hb hts (wg_ft i_MH) hown hK hO k_h0 (kn := 225) (ci := 12) (fl := [(3, 172), (3, 181), (3, 226), (3, 291), (3, 299), (3, 308), (3, 317), (3, 326), (3, 334), (3, 342), (3, 350), (3, 359), (3, 368), (3, 369), (3, 370), (3, 371), (3, 372), (3, 373), (3, 374), (3, 375), (3, 376), (3, 377), (3, 378), (0, 0), (0, 0), (0, 0), (0, 0), (0, 0), (0, 0), (0, 0), (0, 0)]) rfl hP rfl 12 (by decide) (hts _ (wg_t kw_1444)) (fun _ h9 => h9) (cd := (3, 368)) rfl dMH_ball_138 (fun v27 hv27 => ?_)
                  obtain ⟨r26, rfl, kr25⟩ := (show ∃ r : Nat, v27 = .ref r ∧ T r = some 368 from hv27)
                  refine lv_iload hx hb dMH_ball_141 (lv_at hl 1 rfl) ?_
                  refine lv_aload_n hx hb dMH_ball_143 rfl (lv_at hl 3 rfl) ?_
                  refine nw_get (C := "LatticeKeysModel$Hands") (TT := T_MH) (N := 31) hx hb hts (wg_ft i_MH) hown hK hO k_h0 (kn := 225) (ci := 12) (fl := [(3, 172), (3, 181), (3, 226), (3, 291), (3, 299), (3, 308), (3, 317), (3, 326), (3, 334), (3, 342), (3, 350), (3, 359), (3, 368), (3, 369), (3, 370), (3, 371), (3, 372), (3, 373), (3, 374), (3, 375), (3, 376), (3, 377), (3, 378), (0, 0), (0, 0), (0, 0), (0, 0), (0, 0), (0, 0), (0, 0), (0, 0)]) rfl hP rfl 12 (by decide) (hts _ (wg_t kw_1444)) (fun _ h9 => h9) (cd := (3, 368)) rfl dMH_ball_144 (fun v28 hv28 => ?_)
                  obtain ⟨r27, rfl, kr26⟩ := (show ∃ r : Nat, v28 = .ref r ∧ T r = some 368 from hv28)
                  refine lv_iload hx hb dMH_ball_147 (lv_at hl 0 rfl) ?_
                  refine nw_iald hx hb hK hO kr26 (k := 368) rfl hP (by omega) (by omega) dMH_ball_149 ?_
                  refine nw_iast hx hb hK hO hU kr25 (k := 368) rfl hP hD hS (by omega) (by omega) dMH_ball_150 (fun s28 pl H locs es21 hO hP hD hS => ?_)
                  replace hR := bnd_step hR es21
                  first | rw [bnd_eq, ← es21] at hE | replace hE := bndP_step hE es21
                  have hF := frm_sI hF es21 (by unfold M_MH_ball_0; omega)
                  have hf103 : s28.1 225 23 = nI 0 := fc_ne hf93 es21 (by omega)
                  have hf104 : s28.1 225 24 = nI 4 := fc_ne hf94 es21 (by omega)
                  have hf105 : s28.1 225 25 = nI 4 := fc_ne hf95 es21 (by omega)
                  have hf106 : s28.1 225 26 = nI 2 := fc_ne hf96 es21 (by omega)
                  have hf107 : s28.1 225 27 = nI 131072 := fc_ne hf97 es21 (by omega)
                  have hf108 : s28.1 225 28 = nI 95232 := fc_ne hf98 es21 (by omega)
                  have hf109 : s28.1 225 29 = nI 78 := fc_ne hf99 es21 (by omega)
                  have hf110 : s28.1 225 30 = nI 32 := fc_ne hf100 es21 (by omega)
                  have hf111 : s28.1 172 6 = nI ps24 := fc_ne hf101 es21 (by omega)
                  have hf112 : s28.1 172 5 = nI x31 := fc_ne hf102 es21 (by omega)
                  refine lv_aload_n hx hb dMH_ball_151 rfl (lv_at hl 3 rfl) ?_
                  refine nw_get (C := "LatticeKeysModel$Hands") (TT := T_MH) (N := 31) hx hb hts (wg_ft i_MH) hown hK hO k_h0 (kn := 225) (ci := 12) (fl := [(3, 172), (3, 181), (3, 226), (3, 291), (3, 299), (3, 308), (3, 317), (3, 326), (3, 334), (3, 342), (3, 350), (3, 359), (3, 368), (3, 369), (3, 370), (3, 371), (3, 372), (3, 373), (3, 374), (3, 375), (3, 376), (3, 377), (3, 378), (0, 0), (0, 0), (0, 0), (0, 0), (0, 0), (0, 0), (0, 0), (0, 0)]) rfl hP rfl 12 (by decide) (hts _ (wg_t kw_1444)) (fun _ h9 => h9) (cd := (3, 368)) rfl dMH_ball_152 (fun v29 hv29 => ?_)
                  obtain ⟨r28, rfl, kr27⟩ := (show ∃ r : Nat, v29 = .ref r ∧ T r = some 368 from hv29)
                  refine lv_iload hx hb dMH_ball_155 (lv_at hl 0 rfl) ?_
                  refine lv_lload_n hx hb dMH_ball_157 rfl (lv_at hl 2 rfl) ?_
                  refine lv_iload hx hb dMH_ball_158 (lv_at hl 1 rfl) ?_
                  refine va_gets hx hb (hEn.2.1 26 _ rfl).1 hS hown (hts _ (wg_t kw_1716)) (fun _ h9 => h9) dMH_ball_160 ?_
                  refine lv_aload_n hx hb dMH_ball_163 rfl (lv_at hl 3 rfl) ?_
                  refine nw_get (C := "LatticeKeysModel$Hands") (TT := T_MH) (N := 31) hx hb hts (wg_ft i_MH) hown hK hO k_h0 (kn := 225) (ci := 12) (fl := [(3, 172), (3, 181), (3, 226), (3, 291), (3, 299), (3, 308), (3, 317), (3, 326), (3, 334), (3, 342), (3, 350), (3, 359), (3, 368), (3, 369), (3, 370), (3, 371), (3, 372), (3, 373), (3, 374), (3, 375), (3, 376), (3, 377), (3, 378), (0, 0), (0, 0), (0, 0), (0, 0), (0, 0), (0, 0), (0, 0), (0, 0)]) rfl hP rfl 23 (by decide) (hts _ (wg_t kw_1455)) (fun _ h9 => h9) (cd := (0, 0)) rfl dMH_ball_164 (fun v30 hv30 => ?_)
                  obtain rfl := (show v30 = .int (s28.1 225 23) from hv30)
                  obtain ⟨z24, ez24, hz27, hz28⟩ := cl_of (b := 2147483648) hf103 (by omega) (by decide)
                  replace hR := bnd_step hR ez24
                  first | rw [bnd_eq, ← ez24] at hE | replace hE := bndP_step hE ez24
                  refine mi_as hz27 ?_
                  subst hz28
                  refine va_ti (v := .int (nI 39)) hx hb (hEn.2.1 26 _ rfl).2 hS (vp_in_nI (by decide) (by decide)) (by decide +kernel) dMH_ball_167 ?_
                  refine mi_iadd hx hb dMH_ball_168 ?_
                  refine lv_sipush (v := nI 256) hx hb dMH_ball_169 (by decide) ?_
                  refine lv_isub hx hb dMH_ball_172 ?_
                  refine lv_lushr hx hb dMH_ball_173 rfl ?_
                  refine lv_lconst (v := 1) hx hb dMH_ball_174 (by decide) ?_
                  refine lv_land hx hb dMH_ball_175 ?_
                  refine lv_lconst (v := 1) hx hb dMH_ball_176 (by decide) ?_
                  refine W.lcmp hx hb dMH_ball_177 ?_
                  refine lv_if_ne (tgt := 185) hx hb dMH_ball_178 (by decide) (fun h26 => ?_) (fun h26 => ?_)
                  · replace hR := hR.trans (if_neg h26)
                    first | rw [if_neg h26] at hE | rw [E_MH_ball_0_L0, if_neg h26] at hE | rw [E_MH_ball_0_L1, if_neg h26] at hE | rw [E_MH_ball_0_L2, if_neg h26] at hE | rw [E_MH_ball_0_L3, if_neg h26] at hE | rw [E_MH_ball_0_L4, if_neg h26] at hE | rw [E_MH_ball_0_L5, if_neg h26] at hE | rw [E_MH_ball_0_L6, if_neg h26] at hE | rw [E_MH_ball_0_L7, if_neg h26] at hE | rw [E_MH_ball_0_L8, if_neg h26] at hE | replace hE := iteP_neg h26 hE
                    refine lv_iconst (v := nI 1) hx hb dMH_ball_185 (by decide) ?_
                    refine nw_iast hx hb hK hO hU kr27 (k := 368) rfl hP hD hS (by omega) (by omega) dMH_ball_186 (fun s29 pl H locs es22 hO hP hD hS => ?_)
                    replace hR := bnd_step hR es22
                    first | rw [bnd_eq, ← es22] at hE | replace hE := bndP_step hE es22
                    have hF := frm_sI hF es22 (by unfold M_MH_ball_0; omega)
                    have hf113 : s29.1 225 23 = nI 0 := fc_ne hf103 es22 (by omega)
                    have hf114 : s29.1 225 24 = nI 4 := fc_ne hf104 es22 (by omega)
                    have hf115 : s29.1 225 25 = nI 4 := fc_ne hf105 es22 (by omega)
                    have hf116 : s29.1 225 26 = nI 2 := fc_ne hf106 es22 (by omega)
                    have hf117 : s29.1 225 27 = nI 131072 := fc_ne hf107 es22 (by omega)
                    have hf118 : s29.1 225 28 = nI 95232 := fc_ne hf108 es22 (by omega)
                    have hf119 : s29.1 225 29 = nI 78 := fc_ne hf109 es22 (by omega)
                    have hf120 : s29.1 225 30 = nI 32 := fc_ne hf110 es22 (by omega)
                    have hf121 : s29.1 172 6 = nI ps24 := fc_ne hf111 es22 (by omega)
                    have hf122 : s29.1 172 5 = nI x31 := fc_ne hf112 es22 (by omega)
                    refine mi_iinc (k := 1) (x := i23) (d := 1) (y := i23 + 1) (lv' := [(4, .int (nI (i23 + 1))), (5, .int (nI jj21)), (2, .long y21), (0, .ref h0)]) hx hb dMH_ball_187 hl rfl (by decide) rfl (by decide) rfl (fun ls hl => ?_)
                    refine lv_goto (tgt := 101) hx hb dMH_ball_190 (by decide) ?_
                    exact ih23 (i23 + 1) s29 ps24 pl ls H locs (by omega) (by omega) (by omega) hF hf113 hf114 hf115 hf116 hf117 hf118 hf119 hf120 hf121 (by have h9 := hf122; rw [show x31 = x28 by omega] at h9; exact h9) hE hR (lv_sub hl [0, 2, 3] rfl) hO hP hD hS
                  · replace hR := hR.trans (if_pos h26)
                    first | rw [if_pos h26] at hE | rw [E_MH_ball_0_L0, if_pos h26] at hE | rw [E_MH_ball_0_L1, if_pos h26] at hE | rw [E_MH_ball_0_L2, if_pos h26] at hE | rw [E_MH_ball_0_L3, if_pos h26] at hE | rw [E_MH_ball_0_L4, if_pos h26] at hE | rw [E_MH_ball_0_L5, if_pos h26] at hE | rw [E_MH_ball_0_L6, if_pos h26] at hE | rw [E_MH_ball_0_L7, if_pos h26] at hE | rw [E_MH_ball_0_L8, if_pos h26] at hE | replace hE := iteP_pos h26 hE
                    refine lv_iconst (v := (-1)) hx hb dMH_ball_181 (by decide) ?_
                    refine lv_goto (tgt := 186) hx hb dMH_ball_182 (by decide) ?_
                    refine nw_iast hx hb hK hO hU kr27 (k := 368) rfl hP hD hS (by omega) (by omega) dMH_ball_186 (fun s30 pl H locs es23 hO hP hD hS => ?_)
                    replace hR := bnd_step hR es23
                    first | rw [bnd_eq, ← es23] at hE | replace hE := bndP_step hE es23
                    have hF := frm_sI hF es23 (by unfold M_MH_ball_0; omega)
                    have hf123 : s30.1 225 23 = nI 0 := fc_ne hf103 es23 (by omega)
                    have hf124 : s30.1 225 24 = nI 4 := fc_ne hf104 es23 (by omega)
                    have hf125 : s30.1 225 25 = nI 4 := fc_ne hf105 es23 (by omega)
                    have hf126 : s30.1 225 26 = nI 2 := fc_ne hf106 es23 (by omega)
                    have hf127 : s30.1 225 27 = nI 131072 := fc_ne hf107 es23 (by omega)
                    have hf128 : s30.1 225 28 = nI 95232 := fc_ne hf108 es23 (by omega)
                    have hf129 : s30.1 225 29 = nI 78 := fc_ne hf109 es23 (by omega)
                    have hf130 : s30.1 225 30 = nI 32 := fc_ne hf110 es23 (by omega)
                    have hf131 : s30.1 172 6 = nI ps24 := fc_ne hf111 es23 (by omega)
                    have hf132 : s30.1 172 5 = nI x31 := fc_ne hf112 es23 (by omega)
                    refine mi_iinc (k := 1) (x := i23) (d := 1) (y := i23 + 1) (lv' := [(4, .int (nI (i23 + 1))), (5, .int (nI jj21)), (2, .long y21), (0, .ref h0)]) hx hb dMH_ball_187 hl rfl (by decide) rfl (by decide) rfl (fun ls hl => ?_)
                    refine lv_goto (tgt := 101) hx hb dMH_ball_190 (by decide) ?_
                    exact ih23 (i23 + 1) s30 ps24 pl ls H locs (by omega) (by omega) (by omega) hF hf123 hf124 hf125 hf126 hf127 hf128 hf129 hf130 hf131 (by have h9 := hf132; rw [show x31 = x28 by omega] at h9; exact h9) hE hR (lv_sub hl [0, 2, 3] rfl) hO hP hD hS
                | succ n24 ih24 =>
                  intro jj21 s27 ps24 pl ls H locs hm24 hi25 hi26 hF hf133 hf134 hf135 hf136 hf137 hf138 hf139 hf140 hf141 hf142 hE hR hl hO hP hD hS
                  refine lv_iload hx hb dMH_ball_118 (lv_at hl 0 rfl) ?_
                  refine lv_iload hx hb dMH_ball_120 (lv_at hl 1 rfl) ?_
                  refine mi_le (tgt := 137) hx hb dMH_ball_122 (by decide) (by omega) (by omega) (fun h27 => ?_) (fun h27 => ?_)
                  · replace hR := hR.trans (if_pos h27)
                    first | rw [if_pos h27] at hE | rw [E_MH_ball_0_L0, if_pos h27] at hE | rw [E_MH_ball_0_L1, if_pos h27] at hE | rw [E_MH_ball_0_L2, if_pos h27] at hE | rw [E_MH_ball_0_L3, if_pos h27] at hE | rw [E_MH_ball_0_L4, if_pos h27] at hE | rw [E_MH_ball_0_L5, if_pos h27] at hE | rw [E_MH_ball_0_L6, if_pos h27] at hE | rw [E_MH_ball_0_L7, if_pos h27] at hE | rw [E_MH_ball_0_L8, if_pos h27] at hE | replace hE := iteP_pos h27 hE
                    refine lv_aload_n hx hb dMH_ball_137 rfl (lv_at hl 3 rfl) ?_
                    refine nw_get (C := "LatticeKeysModel$Hands") (TT := T_MH) (N := 31) hx hb hts (wg_ft i_MH) hown hK hO k_h0 (kn := 225) (ci := 12) (fl := [(3, 172), (3, 181), (3, 226), (3, 291), (3, 299), (3, 308), (3, 317), (3, 326), (3, 334), (3, 342), (3, 350), (3, 359), (3, 368), (3, 369), (3, 370), (3, 371), (3, 372), (3, 373), (3, 374), (3, 375), (3, 376), (3, 377), (3, 378), (0, 0), (0, 0), (0, 0), (0, 0), (0, 0), (0, 0), (0, 0), (0, 0)]) rfl hP rfl 12 (by decide) (hts _ (wg_t kw_1444)) (fun _ h9 => h9) (cd := (3, 368)) rfl dMH_ball_138 (fun v31 hv31 => ?_)
                    obtain ⟨r29, rfl, kr28⟩ := (show ∃ r : Nat, v31 = .ref r ∧ T r = some 368 from hv31)
                    refine lv_iload hx hb dMH_ball_141 (lv_at hl 1 rfl) ?_
                    refine lv_aload_n hx hb dMH_ball_143 rfl (lv_at hl 3 rfl) ?_
                    refine nw_get (C := "LatticeKeysModel$Hands") (TT := T_MH) (N := 31) hx hb hts (wg_ft i_MH) hown hK hO k_h0 (kn := 225) (ci := 12) (fl := [(3, 172), (3, 181), (3, 226), (3, 291), (3, 299), (3, 308), (3, 317), (3, 326), (3, 334), (3, 342), (3, 350), (3, 359), (3, 368), (3, 369), (3, 370), (3, 371), (3, 372), (3, 373), (3, 374), (3, 375), (3, 376), (3, 377), (3, 378), (0, 0), (0, 0), (0, 0), (0, 0), (0, 0), (0, 0), (0, 0), (0, 0)]) rfl hP rfl 12 (by decide) (hts _ (wg_t kw_1444)) (fun _ h9 => h9) (cd := (3, 368)) rfl dMH_ball_144 (fun v32 hv32 => ?_)
                    obtain ⟨r30, rfl, kr29⟩ := (show ∃ r : Nat, v32 = .ref r ∧ T r = some 368 from hv32)
                    refine lv_iload hx hb dMH_ball_147 (lv_at hl 0 rfl) ?_
                    refine nw_iald hx hb hK hO kr29 (k := 368) rfl hP (by omega) (by omega) dMH_ball_149 ?_
                    refine nw_iast hx hb hK hO hU kr28 (k := 368) rfl hP hD hS (by omega) (by omega) dMH_ball_150 (fun s31 pl H locs es24 hO hP hD hS => ?_)
                    replace hR := bnd_step hR es24
                    first | rw [bnd_eq, ← es24] at hE | replace hE := bndP_step hE es24
                    have hF := frm_sI hF es24 (by unfold M_MH_ball_0; omega)
                    have hf143 : s31.1 225 23 = nI 0 := fc_ne hf133 es24 (by omega)
                    have hf144 : s31.1 225 24 = nI 4 := fc_ne hf134 es24 (by omega)
                    have hf145 : s31.1 225 25 = nI 4 := fc_ne hf135 es24 (by omega)
                    have hf146 : s31.1 225 26 = nI 2 := fc_ne hf136 es24 (by omega)
                    have hf147 : s31.1 225 27 = nI 131072 := fc_ne hf137 es24 (by omega)
                    have hf148 : s31.1 225 28 = nI 95232 := fc_ne hf138 es24 (by omega)
                    have hf149 : s31.1 225 29 = nI 78 := fc_ne hf139 es24 (by omega)
                    have hf150 : s31.1 225 30 = nI 32 := fc_ne hf140 es24 (by omega)
                    have hf151 : s31.1 172 6 = nI ps24 := fc_ne hf141 es24 (by omega)
                    have hf152 : s31.1 172 5 = nI x31 := fc_ne hf142 es24 (by omega)
                    refine lv_aload_n hx hb dMH_ball_151 rfl (lv_at hl 3 rfl) ?_
                    refine nw_get (C := "LatticeKeysModel$Hands") (TT := T_MH) (N := 31) hx hb hts (wg_ft i_MH) hown hK hO k_h0 (kn := 225) (ci := 12) (fl := [(3, 172), (3, 181), (3, 226), (3, 291), (3, 299), (3, 308), (3, 317), (3, 326), (3, 334), (3, 342), (3, 350), (3, 359), (3, 368), (3, 369), (3, 370), (3, 371), (3, 372), (3, 373), (3, 374), (3, 375), (3, 376), (3, 377), (3, 378), (0, 0), (0, 0), (0, 0), (0, 0), (0, 0), (0, 0), (0, 0), (0, 0)]) rfl hP rfl 12 (by decide) (hts _ (wg_t kw_1444)) (fun _ h9 => h9) (cd := (3, 368)) rfl dMH_ball_152 (fun v33 hv33 => ?_)
                    obtain ⟨r31, rfl, kr30⟩ := (show ∃ r : Nat, v33 = .ref r ∧ T r = some 368 from hv33)
                    refine lv_iload hx hb dMH_ball_155 (lv_at hl 0 rfl) ?_
                    refine lv_lload_n hx hb dMH_ball_157 rfl (lv_at hl 2 rfl) ?_
                    refine lv_iload hx hb dMH_ball_158 (lv_at hl 1 rfl) ?_
                    refine va_gets hx hb (hEn.2.1 26 _ rfl).1 hS hown (hts _ (wg_t kw_1716)) (fun _ h9 => h9) dMH_ball_160 ?_
                    refine lv_aload_n hx hb dMH_ball_163 rfl (lv_at hl 3 rfl) ?_
                    refine nw_get (C := "LatticeKeysModel$Hands") (TT := T_MH) (N := 31) hx hb hts (wg_ft i_MH) hown hK hO k_h0 (kn := 225) (ci := 12) (fl := [(3, 172), (3, 181), (3, 226), (3, 291), (3, 299), (3, 308), (3, 317), (3, 326), (3, 334), (3, 342), (3, 350), (3, 359), (3, 368), (3, 369), (3, 370), (3, 371), (3, 372), (3, 373), (3, 374), (3, 375), (3, 376), (3, 377), (3, 378), (0, 0), (0, 0), (0, 0), (0, 0), (0, 0), (0, 0), (0, 0), (0, 0)]) rfl hP rfl 23 (by decide) (hts _ (wg_t kw_1455)) (fun _ h9 => h9) (cd := (0, 0)) rfl dMH_ball_164 (fun v34 hv34 => ?_)
                    obtain rfl := (show v34 = .int (s31.1 225 23) from hv34)
                    obtain ⟨z25, ez25, hz29, hz30⟩ := cl_of (b := 2147483648) hf143 (by omega) (by decide)
                    replace hR := bnd_step hR ez25
                    first | rw [bnd_eq, ← ez25] at hE | replace hE := bndP_step hE ez25
                    refine mi_as hz29 ?_
                    subst hz30
                    refine va_ti (v := .int (nI 39)) hx hb (hEn.2.1 26 _ rfl).2 hS (vp_in_nI (by decide) (by decide)) (by decide +kernel) dMH_ball_167 ?_
                    refine mi_iadd hx hb dMH_ball_168 ?_
                    refine lv_sipush (v := nI 256) hx hb dMH_ball_169 (by decide) ?_
                    refine lv_isub hx hb dMH_ball_172 ?_
                    refine lv_lushr hx hb dMH_ball_173 rfl ?_
                    refine lv_lconst (v := 1) hx hb dMH_ball_174 (by decide) ?_
                    refine lv_land hx hb dMH_ball_175 ?_
                    refine lv_lconst (v := 1) hx hb dMH_ball_176 (by decide) ?_
                    refine W.lcmp hx hb dMH_ball_177 ?_
                    refine lv_if_ne (tgt := 185) hx hb dMH_ball_178 (by decide) (fun h28 => ?_) (fun h28 => ?_)
                    · replace hR := hR.trans (if_neg h28)
                      first | rw [if_neg h28] at hE | rw [E_MH_ball_0_L0, if_neg h28] at hE | rw [E_MH_ball_0_L1, if_neg h28] at hE | rw [E_MH_ball_0_L2, if_neg h28] at hE | rw [E_MH_ball_0_L3, if_neg h28] at hE | rw [E_MH_ball_0_L4, if_neg h28] at hE | rw [E_MH_ball_0_L5, if_neg h28] at hE | rw [E_MH_ball_0_L6, if_neg h28] at hE | rw [E_MH_ball_0_L7, if_neg h28] at hE | rw [E_MH_ball_0_L8, if_neg h28] at hE | replace hE := iteP_neg h28 hE
                      refine lv_iconst (v := nI 1) hx hb dMH_ball_185 (by decide) ?_
                      refine nw_iast hx hb hK hO hU kr30 (k := 368) rfl hP hD hS (by omega) (by omega) dMH_ball_186 (fun s32 pl H locs es25 hO hP hD hS => ?_)
                      replace hR := bnd_step hR es25
                      first | rw [bnd_eq, ← es25] at hE | replace hE := bndP_step hE es25
                      have hF := frm_sI hF es25 (by unfold M_MH_ball_0; omega)
                      have hf153 : s32.1 225 23 = nI 0 := fc_ne hf143 es25 (by omega)
                      have hf154 : s32.1 225 24 = nI 4 := fc_ne hf144 es25 (by omega)
                      have hf155 : s32.1 225 25 = nI 4 := fc_ne hf145 es25 (by omega)
                      have hf156 : s32.1 225 26 = nI 2 := fc_ne hf146 es25 (by omega)
                      have hf157 : s32.1 225 27 = nI 131072 := fc_ne hf147 es25 (by omega)
                      have hf158 : s32.1 225 28 = nI 95232 := fc_ne hf148 es25 (by omega)
                      have hf159 : s32.1 225 29 = nI 78 := fc_ne hf149 es25 (by omega)
                      have hf160 : s32.1 225 30 = nI 32 := fc_ne hf150 es25 (by omega)
                      have hf161 : s32.1 172 6 = nI ps24 := fc_ne hf151 es25 (by omega)
                      have hf162 : s32.1 172 5 = nI x31 := fc_ne hf152 es25 (by omega)
                      refine mi_iinc (k := 1) (x := i23) (d := 1) (y := i23 + 1) (lv' := [(4, .int (nI (i23 + 1))), (5, .int (nI jj21)), (2, .long y21), (0, .ref h0)]) hx hb dMH_ball_187 hl rfl (by decide) rfl (by decide) rfl (fun ls hl => ?_)
                      refine lv_goto (tgt := 101) hx hb dMH_ball_190 (by decide) ?_
                      exact ih23 (i23 + 1) s32 ps24 pl ls H locs (by omega) (by omega) (by omega) hF hf153 hf154 hf155 hf156 hf157 hf158 hf159 hf160 hf161 (by have h9 := hf162; rw [show x31 = x28 by omega] at h9; exact h9) hE hR (lv_sub hl [0, 2, 3] rfl) hO hP hD hS
                    · replace hR := hR.trans (if_pos h28)
                      first | rw [if_pos h28] at hE | rw [E_MH_ball_0_L0, if_pos h28] at hE | rw [E_MH_ball_0_L1, if_pos h28] at hE | rw [E_MH_ball_0_L2, if_pos h28] at hE | rw [E_MH_ball_0_L3, if_pos h28] at hE | rw [E_MH_ball_0_L4, if_pos h28] at hE | rw [E_MH_ball_0_L5, if_pos h28] at hE | rw [E_MH_ball_0_L6, if_pos h28] at hE | rw [E_MH_ball_0_L7, if_pos h28] at hE | rw [E_MH_ball_0_L8, if_pos h28] at hE | replace hE := iteP_pos h28 hE
                      refine lv_iconst (v := (-1)) hx hb dMH_ball_181 (by decide) ?_
                      refine lv_goto (tgt := 186) hx hb dMH_ball_182 (by decide) ?_
                      refine nw_iast hx hb hK hO hU kr30 (k := 368) rfl hP hD hS (by omega) (by omega) dMH_ball_186 (fun s33 pl H locs es26 hO hP hD hS => ?_)
                      replace hR := bnd_step hR es26
                      first | rw [bnd_eq, ← es26] at hE | replace hE := bndP_step hE es26
                      have hF := frm_sI hF es26 (by unfold M_MH_ball_0; omega)
                      have hf163 : s33.1 225 23 = nI 0 := fc_ne hf143 es26 (by omega)
                      have hf164 : s33.1 225 24 = nI 4 := fc_ne hf144 es26 (by omega)
                      have hf165 : s33.1 225 25 = nI 4 := fc_ne hf145 es26 (by omega)
                      have hf166 : s33.1 225 26 = nI 2 := fc_ne hf146 es26 (by omega)
                      have hf167 : s33.1 225 27 = nI 131072 := fc_ne hf147 es26 (by omega)
                      have hf168 : s33.1 225 28 = nI 95232 := fc_ne hf148 es26 (by omega)
                      have hf169 : s33.1 225 29 = nI 78 := fc_ne hf149 es26 (by omega)
                      have hf170 : s33.1 225 30 = nI 32 := fc_ne hf150 es26 (by omega)
                      have hf171 : s33.1 172 6 = nI ps24 := fc_ne hf151 es26 (by omega)
                      have hf172 : s33.1 172 5 = nI x31 := fc_ne hf152 es26 (by omega)
                      refine mi_iinc (k := 1) (x := i23) (d := 1) (y := i23 + 1) (lv' := [(4, .int (nI (i23 + 1))), (5, .int (nI jj21)), (2, .long y21), (0, .ref h0)]) hx hb dMH_ball_187 hl rfl (by decide) rfl (by decide) rfl (fun ls hl => ?_)
                      refine lv_goto (tgt := 101) hx hb dMH_ball_190 (by decide) ?_
                      exact ih23 (i23 + 1) s33 ps24 pl ls H locs (by omega) (by omega) (by omega) hF hf163 hf164 hf165 hf166 hf167 hf168 hf169 hf170 hf171 (by have h9 := hf172; rw [show x31 = x28 by omega] at h9; exact h9) hE hR (lv_sub hl [0, 2, 3] rfl) hO hP hD hS
                  · replace hR := hR.trans (if_neg (Nat.not_le.mpr h27))
                    first | rw [if_neg (Nat.not_le.mpr h27)] at hE | rw [E_MH_ball_0_L0, if_neg (Nat.not_le.mpr h27)] at hE | rw [E_MH_ball_0_L1, if_neg (Nat.not_le.mpr h27)] at hE | rw [E_MH_ball_0_L2, if_neg (Nat.not_le.mpr h27)] at hE | rw [E_MH_ball_0_L3, if_neg (Nat.not_le.mpr h27)] at hE | rw [E_MH_ball_0_L4, if_neg (Nat.not_le.mpr h27)] at hE | rw [E_MH_ball_0_L5, if_neg (Nat.not_le.mpr h27)] at hE | rw [E_MH_ball_0_L6, if_neg (Nat.not_le.mpr h27)] at hE | rw [E_MH_ball_0_L7, if_neg (Nat.not_le.mpr h27)] at hE | rw [E_MH_ball_0_L8, if_neg (Nat.not_le.mpr h27)] at hE | replace hE := iteP_neg (Nat.not_le.mpr h27) hE
                    refine lv_aload_n hx hb dMH_ball_125 rfl (lv_at hl 3 rfl) ?_
                    refine nw_get (C := "LatticeKeysModel$Hands") (TT := T_MH) (N := 31) hx hb hts (wg_ft i_MH) hown hK hO k_h0 (kn := 225) (ci := 12) (fl := [(3, 172), (3, 181), (3, 226), (3, 291), (3, 299), (3, 308), (3, 317), (3, 326), (3, 334), (3, 342), (3, 350), (3, 359), (3, 368), (3, 369), (3, 370), (3, 371), (3, 372), (3, 373), (3, 374), (3, 375), (3, 376), (3, 377), (3, 378), (0, 0), (0, 0), (0, 0), (0, 0), (0, 0), (0, 0), (0, 0), (0, 0)]) rfl hP rfl 0 (by decide) (hts _ (wg_t kw_1432)) (fun _ h9 => h9) (cd := (3, 172)) rfl dMH_ball_126 (fun v35 hv35 => ?_)
                    obtain ⟨r32, rfl, kr31⟩ := (show ∃ r : Nat, v35 = .ref r ∧ T r = some 172 from hv35)
                    refine mp_i (cx := []) (wr := []) hP hD hS hA [] [] rfl rfl rfl (by decide) (va_runV (As := []) (rest := []) F (N_MS_next l g _ T s27 pl hO hU r32 ps24 x31 kr31 hf141 hf142 (by omega) (by omega)) (cwV 0 hts (wg_app (wg_c kw_1728 (wg_c kw_1642 (wg_c kw_1643 (wg_c kw_10 wg_n)))) kw_1644) rfl rfl rfl (by decide +kernel) ⟨by decide, by decide⟩) (pn_W "LatticeKeysModel$Sponge" (en_ok g) (ci := 9) (kn := 172) (fl := [(3, 173), (3, 174), (3, 175), (3, 176), (3, 177), (0, 0), (0, 0), (0, 0)]) hK hO kr31 rfl hP hD hS hA hEn [] rfl rfl rfl) rfl rfl hl.1 rfl (lv_room (Nat.le_of_ble_eq_true rfl)) dMH_ball_129 ⟨by omega, by omega⟩) (fun r33 u25 H locs hu25 hP hD hS => ?_)
                    obtain ⟨q22, pl⟩ := u25
                    obtain ⟨⟨eq25, rfl, hFc25, ⟨x35, hx_35, hb_35⟩, ⟨x33, hx_33, hb_33⟩, ⟨x34, hx_34, hb_34⟩, -⟩, hO⟩ := hu25
                    have hO : okn g T q22.2 pl := hO
                    have hP : va_P g.1 vcl ([] ++ pl) _ := hP
                    have hD : va_D _ ([] ++ pl) := hD
                    have hFc25 : frm (M_MS_next) s27 q22.2 := hFc25
                    have hb_33 : x33 ≤ x31 := hb_33
                    have hb_34 : x34 = x31 := hb_34
                    have hb_35 : x35 < 256 := hb_35
                    replace hR := bnd_step hR eq25
                    first | rw [bnd_eq, ← eq25] at hE | replace hE := bndP_step hE eq25
                    have hF := frm_tr hF hFc25 (fun k hk => by unfold M_MS_next at hk; unfold M_MH_ball_0; omega)
                    have hf173 : q22.2.1 225 23 = nI 0 := fc_F hf133 hFc25 (by unfold M_MS_next; omega)
                    have hf174 : q22.2.1 225 24 = nI 4 := fc_F hf134 hFc25 (by unfold M_MS_next; omega)
                    have hf175 : q22.2.1 225 25 = nI 4 := fc_F hf135 hFc25 (by unfold M_MS_next; omega)
                    have hf176 : q22.2.1 225 26 = nI 2 := fc_F hf136 hFc25 (by unfold M_MS_next; omega)
                    have hf177 : q22.2.1 225 27 = nI 131072 := fc_F hf137 hFc25 (by unfold M_MS_next; omega)
                    have hf178 : q22.2.1 225 28 = nI 95232 := fc_F hf138 hFc25 (by unfold M_MS_next; omega)
                    have hf179 : q22.2.1 225 29 = nI 78 := fc_F hf139 hFc25 (by unfold M_MS_next; omega)
                    have hf180 : q22.2.1 225 30 = nI 32 := fc_F hf140 hFc25 (by unfold M_MS_next; omega)
                    obtain ⟨z26, ez26, hz31, hz32⟩ := cl_of (b := 2147483648) hx_35 (by omega) (by decide)
                    replace hR := bnd_step hR ez26
                    first | rw [bnd_eq, ← ez26] at hE | replace hE := bndP_step hE ez26
                    refine mi_as hz31 ?_
                    refine W.widen (k := 0) (n := 0) (by omega) (by omega) ?_
                    refine lv_istore (lv' := [(5, .int (nI z26)), (4, .int (nI i23)), (2, .long y21), (0, .ref h0)]) hx hb dMH_ball_132 hl (by decide) rfl (fun ls hl => ?_)
                    refine lv_goto (tgt := 118) hx hb dMH_ball_134 (by decide) ?_
                    exact ih24 z26 q22.2 x33 pl ls H locs (by omega) (by omega) (by omega) hF hf173 hf174 hf175 hf176 hf177 hf178 hf179 hf180 hx_33 (by have h9 := hx_34; rw [show x34 = x31 by omega] at h9; exact h9) hE hR (lv_sub hl [0, 1, 2, 3] rfl) hO hP hD hS
              exact lp24 fuelM z23 q21.2 x30 pl ls _ _ (by omega) (by omega) (by omega) hF hf85 hf86 hf87 hf88 hf89 hf90 hf91 hf92 hx_30 hx_31 hE hR (lv_sub hl [0, 1, 2, 3] rfl) hO hP hD hS
          exact lp23 (256 - 217) 217 s25 ps22 pl ls _ _ (by omega) (by omega) (by omega) hF hf55 hf56 hf57 hf58 hf59 hf60 hf61 hf62 hf63 hf64 hE hR (lv_sub hl [0, 1, 2] rfl) hO hP hD hS
        | succ n22 ih22 =>
          intro i22 s25 ps22 pl ls H locs hm22 hi22 hF hf181 hf182 hf183 hf184 hf185 hf186 hf187 hf188 hf189 hf190 hE hR hl hO hP hD hS
          refine lv_iload hx hb dMH_ball_65 (lv_at hl 0 rfl) ?_
          refine lv_sipush (v := nI 256) hx hb dMH_ball_67 (by decide) ?_
          refine mi_ge (tgt := 87) hx hb dMH_ball_70 (by decide) (by omega) (by omega) (fun h29 => absurd h29 (by omega)) (fun h29 => ?_)
          refine lv_aload_n hx hb dMH_ball_73 rfl (lv_at hl 2 rfl) ?_
          refine nw_get (C := "LatticeKeysModel$Hands") (TT := T_MH) (N := 31) hx hb hts (wg_ft i_MH) hown hK hO k_h0 (kn := 225) (ci := 12) (fl := [(3, 172), (3, 181), (3, 226), (3, 291), (3, 299), (3, 308), (3, 317), (3, 326), (3, 334), (3, 342), (3, 350), (3, 359), (3, 368), (3, 369), (3, 370), (3, 371), (3, 372), (3, 373), (3, 374), (3, 375), (3, 376), (3, 377), (3, 378), (0, 0), (0, 0), (0, 0), (0, 0), (0, 0), (0, 0), (0, 0), (0, 0)]) rfl hP rfl 12 (by decide) (hts _ (wg_t kw_1444)) (fun _ h9 => h9) (cd := (3, 368)) rfl dMH_ball_74 (fun v36 hv36 => ?_)
          obtain ⟨r34, rfl, kr32⟩ := (show ∃ r : Nat, v36 = .ref r ∧ T r = some 368 from hv36)
          refine lv_iload hx hb dMH_ball_77 (lv_at hl 0 rfl) ?_
          refine lv_iconst (v := nI 0) hx hb dMH_ball_79 (by decide) ?_
          refine nw_iast hx hb hK hO hU kr32 (k := 368) rfl hP hD hS (by omega) (by omega) dMH_ball_80 (fun s34 pl H locs es27 hO hP hD hS => ?_)
          replace hR := bnd_step hR es27
          first | rw [bnd_eq, ← es27] at hE | replace hE := bndP_step hE es27
          have hF := frm_sI hF es27 (by unfold M_MH_ball_0; omega)
          have hf191 : s34.1 225 23 = nI 0 := fc_ne hf181 es27 (by omega)
          have hf192 : s34.1 225 24 = nI 4 := fc_ne hf182 es27 (by omega)
          have hf193 : s34.1 225 25 = nI 4 := fc_ne hf183 es27 (by omega)
          have hf194 : s34.1 225 26 = nI 2 := fc_ne hf184 es27 (by omega)
          have hf195 : s34.1 225 27 = nI 131072 := fc_ne hf185 es27 (by omega)
          have hf196 : s34.1 225 28 = nI 95232 := fc_ne hf186 es27 (by omega)
          have hf197 : s34.1 225 29 = nI 78 := fc_ne hf187 es27 (by omega)
          have hf198 : s34.1 225 30 = nI 32 := fc_ne hf188 es27 (by omega)
          have hf199 : s34.1 172 6 = nI ps22 := fc_ne hf189 es27 (by omega)
          have hf200 : s34.1 172 5 = nI x28 := fc_ne hf190 es27 (by omega)
          refine mi_iinc (k := 0) (x := i22) (d := 1) (y := i22 + 1) (lv' := [(4, .int (nI (i22 + 1))), (2, .long y21), (0, .ref h0)]) hx hb dMH_ball_81 hl rfl (by decide) rfl (by decide) rfl (fun ls hl => ?_)
          refine lv_goto (tgt := 65) hx hb dMH_ball_84 (by decide) ?_
          exact ih22 (i22 + 1) s34 ps22 pl ls H locs (by omega) (by omega) hF hf191 hf192 hf193 hf194 hf195 hf196 hf197 hf198 hf199 hf200 hE hR (lv_sub hl [0, 1, 2] rfl) hO hP hD hS
      exact lp22 256 0 s24 ps21 pl ls _ _ (by omega) (by omega) hF hf45 hf46 hf47 hf48 hf49 hf50 hf51 hf52 hf53 hf54 hE hR (lv_sub hl [0, 1, 2] rfl) hO hP hD hS
    | succ n21 ih21 =>
      intro i21 y21 s24 ps21 pl ls H locs hm21 hi21 hF hf201 hf202 hf203 hf204 hf205 hf206 hf207 hf208 hf209 hf210 hE hR hl hO hP hD hS
      refine lv_iload hx hb dMH_ball_32 (lv_at hl 0 rfl) ?_
      refine lv_bipush (v := nI 8) hx hb dMH_ball_34 (by decide) ?_
      refine mi_ge (tgt := 62) hx hb dMH_ball_36 (by decide) (by omega) (by omega) (fun h30 => absurd h30 (by omega)) (fun h30 => ?_)
      refine lv_lload_n hx hb dMH_ball_39 rfl (lv_at hl 1 rfl) ?_
      refine lv_aload_n hx hb dMH_ball_40 rfl (lv_at hl 2 rfl) ?_
      refine nw_get (C := "LatticeKeysModel$Hands") (TT := T_MH) (N := 31) hx hb hts (wg_ft i_MH) hown hK hO k_h0 (kn := 225) (ci := 12) (fl := [(3, 172), (3, 181), (3, 226), (3, 291), (3, 299), (3, 308), (3, 317), (3, 326), (3, 334), (3, 342), (3, 350), (3, 359), (3, 368), (3, 369), (3, 370), (3, 371), (3, 372), (3, 373), (3, 374), (3, 375), (3, 376), (3, 377), (3, 378), (0, 0), (0, 0), (0, 0), (0, 0), (0, 0), (0, 0), (0, 0), (0, 0)]) rfl hP rfl 0 (by decide) (hts _ (wg_t kw_1432)) (fun _ h9 => h9) (cd := (3, 172)) rfl dMH_ball_41 (fun v37 hv37 => ?_)
      obtain ⟨r35, rfl, kr33⟩ := (show ∃ r : Nat, v37 = .ref r ∧ T r = some 172 from hv37)
      refine mp_i (cx := []) (wr := []) hP hD hS hA [] [] rfl rfl rfl (by decide) (va_runV (As := []) (rest := [.long y21]) F (N_MS_next l g _ T s24 pl hO hU r35 ps21 x28 kr33 hf209 hf210 (by omega) (by omega)) (cwV 0 hts (wg_app (wg_c kw_1728 (wg_c kw_1642 (wg_c kw_1643 (wg_c kw_10 wg_n)))) kw_1644) rfl rfl rfl (by decide +kernel) ⟨by decide, by decide⟩) (pn_W "LatticeKeysModel$Sponge" (en_ok g) (ci := 9) (kn := 172) (fl := [(3, 173), (3, 174), (3, 175), (3, 176), (3, 177), (0, 0), (0, 0), (0, 0)]) hK hO kr33 rfl hP hD hS hA hEn [] rfl rfl rfl) rfl rfl hl.1 rfl (lv_room (Nat.le_of_ble_eq_true rfl)) dMH_ball_44 ⟨by omega, by omega⟩) (fun r36 u26 H locs hu26 hP hD hS => ?_)
      obtain ⟨q23, pl⟩ := u26
      obtain ⟨⟨eq26, rfl, hFc26, ⟨x38, hx_38, hb_38⟩, ⟨x36, hx_36, hb_36⟩, ⟨x37, hx_37, hb_37⟩, -⟩, hO⟩ := hu26
      have hO : okn g T q23.2 pl := hO
      have hP : va_P g.1 vcl ([] ++ pl) _ := hP
      have hD : va_D _ ([] ++ pl) := hD
      have hFc26 : frm (M_MS_next) s24 q23.2 := hFc26
      have hb_36 : x36 ≤ x28 := hb_36
      have hb_37 : x37 = x28 := hb_37
      have hb_38 : x38 < 256 := hb_38
      replace hR := bnd_step hR eq26
      first | rw [bnd_eq, ← eq26] at hE | replace hE := bndP_step hE eq26
      have hF := frm_tr hF hFc26 (fun k hk => by unfold M_MS_next at hk; unfold M_MH_ball_0; omega)
      have hf211 : q23.2.1 225 23 = nI 0 := fc_F hf201 hFc26 (by unfold M_MS_next; omega)
      have hf212 : q23.2.1 225 24 = nI 4 := fc_F hf202 hFc26 (by unfold M_MS_next; omega)
      have hf213 : q23.2.1 225 25 = nI 4 := fc_F hf203 hFc26 (by unfold M_MS_next; omega)
      have hf214 : q23.2.1 225 26 = nI 2 := fc_F hf204 hFc26 (by unfold M_MS_next; omega)
      have hf215 : q23.2.1 225 27 = nI 131072 := fc_F hf205 hFc26 (by unfold M_MS_next; omega)
      have hf216 : q23.2.1 225 28 = nI 95232 := fc_F hf206 hFc26 (by unfold M_MS_next; omega)
      have hf217 : q23.2.1 225 29 = nI 78 := fc_F hf207 hFc26 (by unfold M_MS_next; omega)
      have hf218 : q23.2.1 225 30 = nI 32 := fc_F hf208 hFc26 (by unfold M_MS_next; omega)
      obtain ⟨z27, ez27, hz33, hz34⟩ := cl_of (b := 2147483648) hx_38 (by omega) (by decide)
      replace hR := bnd_step hR ez27
      first | rw [bnd_eq, ← ez27] at hE | replace hE := bndP_step hE ez27
      refine mi_as hz33 ?_
      refine W.widen (k := 0) (n := 0) (by omega) (by omega) ?_
      refine lv_i2l hx hb dMH_ball_47 rfl ?_
      refine lv_bipush (v := nI 8) hx hb dMH_ball_48 (by decide) ?_
      refine lv_iload hx hb dMH_ball_50 (lv_at hl 0 rfl) ?_
      refine mi_imul hx hb dMH_ball_52 ?_
      refine lv_lshl hx hb dMH_ball_53 rfl ?_
      refine lv_lor hx hb dMH_ball_54 ?_
      refine ml_eqv (fun y22 ez28 => ?_)
      replace hR := bnd_step hR ez28
      first | rw [bnd_eq, ← ez28] at hE | replace hE := bndP_step hE ez28
      refine lv_lstore_n (lv' := [(2, .long y22), (4, .int (nI i21)), (0, .ref h0)]) hx hb dMH_ball_55 rfl hl (by decide) rfl (fun ls hl => ?_)
      refine mi_iinc (k := 1) (x := i21) (d := 1) (y := i21 + 1) (lv' := [(4, .int (nI (i21 + 1))), (2, .long y22), (0, .ref h0)]) hx hb dMH_ball_56 hl rfl (by decide) rfl (by decide) rfl (fun ls hl => ?_)
      refine lv_goto (tgt := 32) hx hb dMH_ball_59 (by decide) ?_
      exact ih21 (i21 + 1) y22 q23.2 x36 pl ls H locs (by omega) (by omega) hF hf211 hf212 hf213 hf214 hf215 hf216 hf217 hf218 hx_36 (by have h9 := hx_37; rw [show x37 = x28 by omega] at h9; exact h9) hE hR (lv_sub hl [0, 1, 2] rfl) hO hP hD hS
  exact lp21 8 0 0 s23 x27 pl ls _ _ (by omega) (by omega) hF hf37 hf38 hf39 hf40 hf41 hf42 hf43 hf44 hx_27 hx_28 hE hR (lv_sub hl [0, 1, 2] rfl) hO hP hD hS
def M_MH_ball_1 (k : Nat) : Prop := k = 172 ∨ k = 368 ∨ (0 : Nat) = 1
noncomputable def F_MH_ball_1_L3 (y21 : Int64) (i23 : Nat) (kk : Nat → Sto → Sto) : Nat → Nat → Sto → Sto
  | 0, jj21, s27 => bnd (sI s27 368 i23 (s27.1 368 jj21)) fun s28 => bnd ((s28.1 225 23).toNatClampNeg) fun z24 => if (lg_cmp (((y21.toUInt64 >>> (((nI (i23 + 49)) - (nI 256)).toInt64.toUInt64 &&& Int64.toUInt64 63)).toInt64) &&& 1) 1) = 0 then bnd (sI s28 368 jj21 (-1)) fun s30 => kk (i23 + 1) s30 else bnd (sI s28 368 jj21 (nI 1)) fun s29 => kk (i23 + 1) s29
  | n24 + 1, jj21, s27 => if jj21 ≤ i23 then bnd (sI s27 368 i23 (s27.1 368 jj21)) fun s31 => bnd ((s31.1 225 23).toNatClampNeg) fun z25 => if (lg_cmp (((y21.toUInt64 >>> (((nI (i23 + 49)) - (nI 256)).toInt64.toUInt64 &&& Int64.toUInt64 63)).toInt64) &&& 1) 1) = 0 then bnd (sI s31 368 jj21 (-1)) fun s33 => kk (i23 + 1) s33 else bnd (sI s31 368 jj21 (nI 1)) fun s32 => kk (i23 + 1) s32 else bnd (F_MS_next  s27) fun q22 => bnd (q22.1.toNatClampNeg) fun z26 => F_MH_ball_1_L3 y21 i23 kk n24 z26 q22.2
noncomputable def E_MH_ball_1_L3 (y21 : Int64) (i23 : Nat) (ke : Nat → Sto → Prop) : Nat → Nat → Sto → Prop
  | 0, jj21, s27 => (jj21 ≤ i23) ∧ (bnd (sI s27 368 i23 (s27.1 368 jj21)) fun s28 => bnd ((s28.1 225 23).toNatClampNeg) fun z24 => if (lg_cmp (((y21.toUInt64 >>> (((nI (i23 + 49)) - (nI 256)).toInt64.toUInt64 &&& Int64.toUInt64 63)).toInt64) &&& 1) 1) = 0 then bnd (sI s28 368 jj21 (-1)) fun s30 => ke (i23 + 1) s30 else bnd (sI s28 368 jj21 (nI 1)) fun s29 => ke (i23 + 1) s29)
  | n24 + 1, jj21, s27 => if jj21 ≤ i23 then bnd (sI s27 368 i23 (s27.1 368 jj21)) fun s31 => bnd ((s31.1 225 23).toNatClampNeg) fun z25 => if (lg_cmp (((y21.toUInt64 >>> (((nI (i23 + 49)) - (nI 256)).toInt64.toUInt64 &&& Int64.toUInt64 63)).toInt64) &&& 1) 1) = 0 then bnd (sI s31 368 jj21 (-1)) fun s33 => ke (i23 + 1) s33 else bnd (sI s31 368 jj21 (nI 1)) fun s32 => ke (i23 + 1) s32 else bnd (F_MS_next  s27) fun q22 => bnd (q22.1.toNatClampNeg) fun z26 => E_MH_ball_1_L3 y21 i23 ke n24 z26 q22.2
noncomputable def F_MH_ball_1_L2 (y21 : Int64) : Nat → Nat → Sto → Sto
  | 0, i23, s26 => s26
  | n23 + 1, i23, s26 => bnd (F_MS_next  s26) fun q21 => bnd (q21.1.toNatClampNeg) fun z23 => F_MH_ball_1_L3 y21 i23 (F_MH_ball_1_L2 y21 n23) fuelM z23 q21.2
noncomputable def E_MH_ball_1_L2 (y21 : Int64) : Nat → Nat → Sto → Prop
  | 0, i23, s26 => True
  | n23 + 1, i23, s26 => bnd (F_MS_next  s26) fun q21 => bnd (q21.1.toNatClampNeg) fun z23 => E_MH_ball_1_L3 y21 i23 (E_MH_ball_1_L2 y21 n23) fuelM z23 q21.2
noncomputable def F_MH_ball_1_L1 (y21 : Int64) : Nat → Nat → Sto → Sto
  | 0, i22, s25 => bnd ((s25.1 225 23).toNatClampNeg) fun z22 => F_MH_ball_1_L2 y21 (256 - 207) 207 s25
  | n22 + 1, i22, s25 => bnd (sI s25 368 i22 (nI 0)) fun s34 => F_MH_ball_1_L1 y21 n22 (i22 + 1) s34
noncomputable def E_MH_ball_1_L1 (y21 : Int64) : Nat → Nat → Sto → Prop
  | 0, i22, s25 => bnd ((s25.1 225 23).toNatClampNeg) fun z22 => E_MH_ball_1_L2 y21 (256 - 207) 207 s25
  | n22 + 1, i22, s25 => bnd (sI s25 368 i22 (nI 0)) fun s34 => E_MH_ball_1_L1 y21 n22 (i22 + 1) s34
noncomputable def F_MH_ball_1_L0 : Nat → Nat → Int64 → Sto → Sto
  | 0, i21, y21, s24 => F_MH_ball_1_L1 y21 256 0 s24
  | n21 + 1, i21, y21, s24 => bnd (F_MS_next  s24) fun q23 => bnd (q23.1.toNatClampNeg) fun z27 => bnd ((y21 ||| (((nI z27).toInt64) <<< ((nI (8 * i21)).toInt64 &&& 63)))) fun y22 => F_MH_ball_1_L0  n21 (i21 + 1) y22 q23.2
noncomputable def E_MH_ball_1_L0 : Nat → Nat → Int64 → Sto → Prop
  | 0, i21, y21, s24 => E_MH_ball_1_L1 y21 256 0 s24
  | n21 + 1, i21, y21, s24 => bnd (F_MS_next  s24) fun q23 => bnd (q23.1.toNatClampNeg) fun z27 => bnd ((y21 ||| (((nI z27).toInt64) <<< ((nI (8 * i21)).toInt64 &&& 63)))) fun y22 => E_MH_ball_1_L0  n21 (i21 + 1) y22 q23.2
noncomputable def F_MH_ball_1 (pb : Nat) (s : Sto) : Sto := bnd (F_MS_shake  s) fun s21 => bnd ((s21.1 225 30).toNatClampNeg) fun z21 => bnd (F_MS_puts pb 64 0 48 s21) fun s22 => bnd (F_MS_end  s22) fun s23 => F_MH_ball_1_L0 8 0 0 s23
noncomputable def E_MH_ball_1 (pb : Nat) (s : Sto) : Prop := bnd (F_MS_shake  s) fun s21 => bnd ((s21.1 225 30).toNatClampNeg) fun z21 => bnd (F_MS_puts pb 64 0 48 s21) fun s22 => bnd (F_MS_end  s22) fun s23 => E_MH_ball_1_L0 8 0 0 s23
set_option maxHeartbeats 8000000 in
set_option maxRecDepth 100000 in
theorem N_MH_ball_1 (l : Launch) (g : Gd) (sz : Nat) (T : TyN) (s : Sto) (pl : va_W) (hO : okn g T s pl) (hU : inj T) (h0 b : Nat) (pb : Nat) (k_h0 : T h0 = some 225) (k_b : T b = some pb) (n_b : nsp pb = (1, 64, [])) (e_c0 : s.1 225 23 = nI 1) (e_c1 : s.1 225 24 = nI 6) (e_c2 : s.1 225 25 = nI 5) (e_c3 : s.1 225 26 = nI 4) (e_c4 : s.1 225 27 = nI 524288) (e_c5 : s.1 225 28 = nI 261888) (e_c6 : s.1 225 29 = nI 196) (e_c7 : s.1 225 30 = nI 48) (hE : E_MH_ball_1 pb s)  : Met l y_MH_ball w_MH_ball ({ frames := 4, cells := 0, slots := 0, locals := 90 } : Room) (va_Pc [.ref h0, .ref b] (pr (en g) g.1 vcl sz ([] ++ pl))) (va_Qv (fun (u : (Sto) × va_W) => (u.1 = F_MH_ball_1 pb s ∧ frm (M_MH_ball_1) s u.1 ∧ True) ∧ okn g T u.1 u.2) (po g.1 vcl (va_A ([] ++ pl) sz) (fun (u : (Sto) × va_W) => [] ++ u.2)) (va_A ([] ++ pl) sz)) 0 0 (va_A ([] ++ pl) sz) := by
  refine mc_entry (cc := c_MH_ball) (maxL := 6) (ret := none) (by decide) rfl (Nat.le_of_ble_eq_true rfl) ?_
  intro p e s0 m args below meth c ls F hr hlk hnm hsz hP hD hEn hA hl
  obtain ⟨hx, hb, hml, hown, hts⟩ := id F
  have hK := hEn.1
  generalize va_A ([] ++ pl) sz = A at hD hEn hA ⊢
  have hS : va_S A s0.heap s0.heap [] := va_S.rf
  have hl : lv_has ls 6 [(0, .ref h0), (1, .ref b)] := hl
  have hR : F_MH_ball_1 pb s = F_MH_ball_1 pb s := rfl
  have hF : frm (M_MH_ball_1) s s := frm_rf
  have ne_172_pb : 172 ≠ pb := nsp_ne (p := 172) rfl n_b (show (5 : Nat) ≠ 1 by decide)
  have ne_225_pb : 225 ≠ pb := nsp_ne (p := 225) rfl n_b (show (5 : Nat) ≠ 1 by decide)
  refine lv_aload_n hx hb dMH_ball_0 rfl (lv_at hl 0 rfl) ?_
  refine nw_get (C := "LatticeKeysModel$Hands") (TT := T_MH) (N := 31) hx hb hts (wg_ft i_MH) hown hK hO k_h0 (kn := 225) (ci := 12) (fl := [(3, 172), (3, 181), (3, 226), (3, 291), (3, 299), (3, 308), (3, 317), (3, 326), (3, 334), (3, 342), (3, 350), (3, 359), (3, 368), (3, 369), (3, 370), (3, 371), (3, 372), (3, 373), (3, 374), (3, 375), (3, 376), (3, 377), (3, 378), (0, 0), (0, 0), (0, 0), (0, 0), (0, 0), (0, 0), (0, 0), (0, 0)]) rfl hP rfl 0 (by decide) (hts _ (wg_t kw_1432)) (fun _ h9 => h9) (cd := (3, 172)) rfl dMH_ball_1 (fun v21 hv21 => ?_)
  obtain ⟨r21, rfl, kr21⟩ := (show ∃ r : Nat, v21 = .ref r ∧ T r = some 172 from hv21)
  refine mp_v (cx := []) (wr := []) hP hD hS hA [] [] rfl rfl rfl (by decide) (va_runV (As := []) (rest := []) F (N_MS_shake l g _ T s pl hO hU r21 kr21) (cwV 0 hts (wg_app (wg_c kw_1718 (wg_c kw_1661 (wg_c kw_1662 (wg_c kw_10 wg_n)))) kw_1663) rfl rfl rfl (by decide +kernel) ⟨by decide, by decide⟩) (pn_W "LatticeKeysModel$Sponge" (en_ok g) (ci := 9) (kn := 172) (fl := [(3, 173), (3, 174), (3, 175), (3, 176), (3, 177), (0, 0), (0, 0), (0, 0)]) hK hO kr21 rfl hP hD hS hA hEn [] rfl rfl rfl) rfl rfl hl.1 rfl (lv_room (Nat.le_of_ble_eq_true rfl)) dMH_ball_4 ⟨by omega, by omega⟩) (fun  u21 H locs hu21 hP hD hS => ?_)
  obtain ⟨s21, pl⟩ := u21
  obtain ⟨⟨eq21, hFc21, ⟨x21, hx_21, hb_21⟩, ⟨x22, hx_22, hb_22⟩, -⟩, hO⟩ := hu21
  have hO : okn g T s21 pl := hO
  have hP : va_P g.1 vcl ([] ++ pl) _ := hP
  have hD : va_D _ ([] ++ pl) := hD
  have hFc21 : frm (M_MS_shake) s s21 := hFc21
  have hb_21 : x21 = 0 := hb_21
  have hb_22 : x22 = 136 := hb_22
  replace hR := bnd_step hR eq21
  first | rw [bnd_eq, ← eq21] at hE | replace hE := bndP_step hE eq21
  have hF := frm_tr hF hFc21 (fun k hk => by unfold M_MS_shake at hk; unfold M_MH_ball_1; omega)
  have hf21 : s21.1 225 23 = nI 1 := fc_F e_c0 hFc21 (by unfold M_MS_shake; omega)
  have hf22 : s21.1 225 24 = nI 6 := fc_F e_c1 hFc21 (by unfold M_MS_shake; omega)
  have hf23 : s21.1 225 25 = nI 5 := fc_F e_c2 hFc21 (by unfold M_MS_shake; omega)
  have hf24 : s21.1 225 26 = nI 4 := fc_F e_c3 hFc21 (by unfold M_MS_shake; omega)
  have hf25 : s21.1 225 27 = nI 524288 := fc_F e_c4 hFc21 (by unfold M_MS_shake; omega)
  have hf26 : s21.1 225 28 = nI 261888 := fc_F e_c5 hFc21 (by unfold M_MS_shake; omega)
  have hf27 : s21.1 225 29 = nI 196 := fc_F e_c6 hFc21 (by unfold M_MS_shake; omega)
  have hf28 : s21.1 225 30 = nI 48 := fc_F e_c7 hFc21 (by unfold M_MS_shake; omega)
  refine W.widen (k := 0) (n := 0) (by omega) (by omega) ?_
  refine lv_aload_n hx hb dMH_ball_7 rfl (lv_at hl 0 rfl) ?_
  refine nw_get (C := "LatticeKeysModel$Hands") (TT := T_MH) (N := 31) hx hb hts (wg_ft i_MH) hown hK hO k_h0 (kn := 225) (ci := 12) (fl := [(3, 172), (3, 181), (3, 226), (3, 291), (3, 299), (3, 308), (3, 317), (3, 326), (3, 334), (3, 342), (3, 350), (3, 359), (3, 368), (3, 369), (3, 370), (3, 371), (3, 372), (3, 373), (3, 374), (3, 375), (3, 376), (3, 377), (3, 378), (0, 0), (0, 0), (0, 0), (0, 0), (0, 0), (0, 0), (0, 0), (0, 0)]) rfl hP rfl 0 (by decide) (hts _ (wg_t kw_1432)) (fun _ h9 => h9) (cd := (3, 172)) rfl dMH_ball_8 (fun v22 hv22 => ?_)
  obtain ⟨r22, rfl, kr22⟩ := (show ∃ r : Nat, v22 = .ref r ∧ T r = some 172 from hv22)
  refine lv_aload_n hx hb dMH_ball_11 rfl (lv_at hl 1 rfl) ?_
  refine lv_iconst (v := nI 0) hx hb dMH_ball_12 (by decide) ?_
  refine lv_aload_n hx hb dMH_ball_13 rfl (lv_at hl 0 rfl) ?_
  refine nw_get (C := "LatticeKeysModel$Hands") (TT := T_MH) (N := 31) hx hb hts (wg_ft i_MH) hown hK hO k_h0 (kn := 225) (ci := 12) (fl := [(3, 172), (3, 181), (3, 226), (3, 291), (3, 299), (3, 308), (3, 317), (3, 326), (3, 334), (3, 342), (3, 350), (3, 359), (3, 368), (3, 369), (3, 370), (3, 371), (3, 372), (3, 373), (3, 374), (3, 375), (3, 376), (3, 377), (3, 378), (0, 0), (0, 0), (0, 0), (0, 0), (0, 0), (0, 0), (0, 0), (0, 0)]) rfl hP rfl 30 (by decide) (hts _ (wg_t kw_1462)) (fun _ h9 => h9) (cd := (0, 0)) rfl dMH_ball_14 (fun v23 hv23 => ?_)
  obtain rfl := (show v23 = .int (s21.1 225 30) from hv23)
  obtain ⟨z21, ez21, hz21, hz22⟩ := cl_of (b := 2147483648) hf28 (by omega) (by decide)
  replace hR := bnd_step hR ez21
  first | rw [bnd_eq, ← ez21] at hE | replace hE := bndP_step hE ez21
  refine mi_as hz21 ?_
  subst hz22
  refine mp_v (cx := []) (wr := []) hP hD hS hA [] [] rfl rfl rfl (by decide) (va_runV (As := [.ref b, .int (nI 0), .int (nI 48)]) (rest := []) F (N_MS_puts l g _ T s21 pl hO hU r22 b pb 64 0 48 x21 x22 kr22 k_b n_b hx_21 hx_22 (by omega) (by omega) (by omega) (by omega)) (cwV 3 hts (wg_app (wg_c kw_1719 (wg_c kw_1612 (wg_c kw_1613 (wg_c kw_10 wg_n)))) kw_1614) rfl rfl rfl (by decide +kernel) ⟨by decide, by decide⟩) (pn_W "LatticeKeysModel$Sponge" (en_ok g) (ci := 9) (kn := 172) (fl := [(3, 173), (3, 174), (3, 175), (3, 176), (3, 177), (0, 0), (0, 0), (0, 0)]) hK hO kr22 rfl hP hD hS hA hEn [] rfl rfl rfl) rfl rfl hl.1 rfl (lv_room (Nat.le_of_ble_eq_true rfl)) dMH_ball_17 ⟨by omega, by omega⟩) (fun  u22 H locs hu22 hP hD hS => ?_)
  obtain ⟨s22, pl⟩ := u22
  obtain ⟨⟨eq22, hFc22, ⟨x24, hx_24, hb_24⟩, ⟨x25, hx_25, hb_25⟩, -⟩, hO⟩ := hu22
  have hO : okn g T s22 pl := hO
  have hP : va_P g.1 vcl ([] ++ pl) _ := hP
  have hD : va_D _ ([] ++ pl) := hD
  have hFc22 : frm (M_MS_puts) s21 s22 := hFc22
  have hb_24 : x24 < x22 := hb_24
  have hb_25 : x25 = x22 := hb_25
  replace hR := bnd_step hR eq22
  first | rw [bnd_eq, ← eq22] at hE | replace hE := bndP_step hE eq22
  have hF := frm_tr hF hFc22 (fun k hk => by unfold M_MS_puts at hk; unfold M_MH_ball_1; omega)
  have hf29 : s22.1 225 23 = nI 1 := fc_F hf21 hFc22 (by unfold M_MS_puts; omega)
  have hf30 : s22.1 225 24 = nI 6 := fc_F hf22 hFc22 (by unfold M_MS_puts; omega)
  have hf31 : s22.1 225 25 = nI 5 := fc_F hf23 hFc22 (by unfold M_MS_puts; omega)
  have hf32 : s22.1 225 26 = nI 4 := fc_F hf24 hFc22 (by unfold M_MS_puts; omega)
  have hf33 : s22.1 225 27 = nI 524288 := fc_F hf25 hFc22 (by unfold M_MS_puts; omega)
  have hf34 : s22.1 225 28 = nI 261888 := fc_F hf26 hFc22 (by unfold M_MS_puts; omega)
  have hf35 : s22.1 225 29 = nI 196 := fc_F hf27 hFc22 (by unfold M_MS_puts; omega)
  have hf36 : s22.1 225 30 = nI 48 := fc_F hf28 hFc22 (by unfold M_MS_puts; omega)
  refine W.widen (k := 0) (n := 0) (by omega) (by omega) ?_
  refine lv_aload_n hx hb dMH_ball_20 rfl (lv_at hl 0 rfl) ?_
  refine nw_get (C := "LatticeKeysModel$Hands") (TT := T_MH) (N := 31) hx hb hts (wg_ft i_MH) hown hK hO k_h0 (kn := 225) (ci := 12) (fl := [(3, 172), (3, 181), (3, 226), (3, 291), (3, 299), (3, 308), (3, 317), (3, 326), (3, 334), (3, 342), (3, 350), (3, 359), (3, 368), (3, 369), (3, 370), (3, 371), (3, 372), (3, 373), (3, 374), (3, 375), (3, 376), (3, 377), (3, 378), (0, 0), (0, 0), (0, 0), (0, 0), (0, 0), (0, 0), (0, 0), (0, 0)]) rfl hP rfl 0 (by decide) (hts _ (wg_t kw_1432)) (fun _ h9 => h9) (cd := (3, 172)) rfl dMH_ball_21 (fun v24 hv24 => ?_)
  obtain ⟨r23, rfl, kr23⟩ := (show ∃ r : Nat, v24 = .ref r ∧ T r = some 172 from hv24)
  refine mp_v (cx := []) (wr := []) hP hD hS hA [] [] rfl rfl rfl (by decide) (va_runV (As := []) (rest := []) F (N_MS_end l g _ T s22 pl hO hU r23 x24 x25 kr23 hx_24 hx_25 (by omega) (by omega)) (cwV 0 hts (wg_app (wg_c kw_1721 (wg_c kw_1634 (wg_c kw_1635 (wg_c kw_10 wg_n)))) kw_1636) rfl rfl rfl (by decide +kernel) ⟨by decide, by decide⟩) (pn_W "LatticeKeysModel$Sponge" (en_ok g) (ci := 9) (kn := 172) (fl := [(3, 173), (3, 174), (3, 175), (3, 176), (3, 177), (0, 0), (0, 0), (0, 0)]) hK hO kr23 rfl hP hD hS hA hEn [] rfl rfl rfl) rfl rfl hl.1 rfl (lv_room (Nat.le_of_ble_eq_true rfl)) dMH_ball_24 ⟨by omega, by omega⟩) (fun  u23 H locs hu23 hP hD hS => ?_)
  obtain ⟨s23, pl⟩ := u23
  obtain ⟨⟨eq23, hFc23, ⟨x27, hx_27, hb_27⟩, ⟨x28, hx_28, hb_28⟩, -⟩, hO⟩ := hu23
  have hO : okn g T s23 pl := hO
  have hP : va_P g.1 vcl ([] ++ pl) _ := hP
  have hD : va_D _ ([] ++ pl) := hD
  have hFc23 : frm (M_MS_end) s22 s23 := hFc23
  have hb_27 : x27 = 0 := hb_27
  have hb_28 : x28 = x25 := hb_28
  replace hR := bnd_step hR eq23
  first | rw [bnd_eq, ← eq23] at hE | replace hE := bndP_step hE eq23
  have hF := frm_tr hF hFc23 (fun k hk => by unfold M_MS_end at hk; unfold M_MH_ball_1; omega)
  have hf37 : s23.1 225 23 = nI 1 := fc_F hf29 hFc23 (by unfold M_MS_end; omega)
  have hf38 : s23.1 225 24 = nI 6 := fc_F hf30 hFc23 (by unfold M_MS_end; omega)
  have hf39 : s23.1 225 25 = nI 5 := fc_F hf31 hFc23 (by unfold M_MS_end; omega)
  have hf40 : s23.1 225 26 = nI 4 := fc_F hf32 hFc23 (by unfold M_MS_end; omega)
  have hf41 : s23.1 225 27 = nI 524288 := fc_F hf33 hFc23 (by unfold M_MS_end; omega)
  have hf42 : s23.1 225 28 = nI 261888 := fc_F hf34 hFc23 (by unfold M_MS_end; omega)
  have hf43 : s23.1 225 29 = nI 196 := fc_F hf35 hFc23 (by unfold M_MS_end; omega)
  have hf44 : s23.1 225 30 = nI 48 := fc_F hf36 hFc23 (by unfold M_MS_end; omega)
  refine W.widen (k := 0) (n := 0) (by omega) (by omega) ?_
  refine lv_lconst (v := 0) hx hb dMH_ball_27 (by decide) ?_
  refine lv_lstore_n (lv' := [(2, .long 0), (0, .ref h0), (1, .ref b)]) hx hb dMH_ball_28 rfl hl (by decide) rfl (fun ls hl => ?_)
  refine lv_iconst (v := nI 0) hx hb dMH_ball_29 (by decide) ?_
  refine lv_istore (lv' := [(4, .int (nI 0)), (2, .long 0), (0, .ref h0), (1, .ref b)]) hx hb dMH_ball_30 hl (by decide) rfl (fun ls hl => ?_)
  have lp21 : ∀ (n21 : Nat) (i21 : Nat) (y21 : Int64) (s24 : Sto) (ps21 : Nat) (pl : va_W) (ls : Array Slot) (H : Heap) (locs : List Loc), n21 + i21 = 8 → (ps21 ≤ 136) → frm (M_MH_ball_1) s s24 → s24.1 225 23 = nI 1 → s24.1 225 24 = nI 6 → s24.1 225 25 = nI 5 → s24.1 225 26 = nI 4 → s24.1 225 27 = nI 524288 → s24.1 225 28 = nI 261888 → s24.1 225 29 = nI 196 → s24.1 225 30 = nI 48 → s24.1 172 6 = nI ps21 → s24.1 172 5 = nI x28 → E_MH_ball_1_L0 n21 i21 y21 s24 → F_MH_ball_1 pb s = F_MH_ball_1_L0 n21 i21 y21 s24 → lv_has ls 6 [(4, .int (nI i21)), (2, .long y21), (0, .ref h0)] → okn g T s24 pl → va_P g.1 vcl ([] ++ pl) H → va_D A ([] ++ pl) → va_S A s0.heap H locs → W p l e ({ frames := 4, cells := 0, slots := 0, locals := 90 } : Room) s0 m args below meth c H locs 0 0 (MQ below (va_Qv (fun (u : (Sto) × va_W) => (u.1 = F_MH_ball_1 pb s ∧ frm (M_MH_ball_1) s u.1 ∧ True) ∧ okn g T u.1 u.2) (po g.1 vcl A (fun (u : (Sto) × va_W) => [] ++ u.2)) A) args s0 0 0 A) (F0 m 32 ls []) := by
    intro n21
    induction n21 with
    | zero =>
      intro i21 y21 s24 ps21 pl ls H locs hm21 hi21 hF hf45 hf46 hf47 hf48 hf49 hf50 hf51 hf52 hf53 hf54 hE hR hl hO hP hD hS
      refine lv_iload hx hb dMH_ball_32 (lv_at hl 0 rfl) ?_
      refine lv_bipush (v := nI 8) hx hb dMH_ball_34 (by decide) ?_
      refine mi_ge (tgt := 62) hx hb dMH_ball_36 (by decide) (by omega) (by omega) (fun h21 => ?_) (fun h21 => absurd h21 (by omega))
      refine lv_iconst (v := nI 0) hx hb dMH_ball_62 (by decide) ?_
      refine lv_istore (lv' := [(4, .int (nI 0)), (2, .long y21), (0, .ref h0)]) hx hb dMH_ball_63 hl (by decide) rfl (fun ls hl => ?_)
      have lp22 : ∀ (n22 : Nat) (i22 : Nat) (s25 : Sto) (ps22 : Nat) (pl : va_W) (ls : Array Slot) (H : Heap) (locs : List Loc), n22 + i22 = 256 → (ps22 ≤ 136) → frm (M_MH_ball_1) s s25 → s25.1 225 23 = nI 1 → s25.1 225 24 = nI 6 → s25.1 225 25 = nI 5 → s25.1 225 26 = nI 4 → s25.1 225 27 = nI 524288 → s25.1 225 28 = nI 261888 → s25.1 225 29 = nI 196 → s25.1 225 30 = nI 48 → s25.1 172 6 = nI ps22 → s25.1 172 5 = nI x28 → E_MH_ball_1_L1 y21 n22 i22 s25 → F_MH_ball_1 pb s = F_MH_ball_1_L1 y21 n22 i22 s25 → lv_has ls 6 [(4, .int (nI i22)), (2, .long y21), (0, .ref h0)] → okn g T s25 pl → va_P g.1 vcl ([] ++ pl) H → va_D A ([] ++ pl) → va_S A s0.heap H locs → W p l e ({ frames := 4, cells := 0, slots := 0, locals := 90 } : Room) s0 m args below meth c H locs 0 0 (MQ below (va_Qv (fun (u : (Sto) × va_W) => (u.1 = F_MH_ball_1 pb s ∧ frm (M_MH_ball_1) s u.1 ∧ True) ∧ okn g T u.1 u.2) (po g.1 vcl A (fun (u : (Sto) × va_W) => [] ++ u.2)) A) args s0 0 0 A) (F0 m 65 ls []) := by
        intro n22
        induction n22 with
        | zero =>
          intro i22 s25 ps22 pl ls H locs hm22 hi22 hF hf55 hf56 hf57 hf58 hf59 hf60 hf61 hf62 hf63 hf64 hE hR hl hO hP hD hS
          refine lv_iload hx hb dMH_ball_65 (lv_at hl 0 rfl) ?_
          refine lv_sipush (v := nI 256) hx hb dMH_ball_67 (by decide) ?_
          refine mi_ge (tgt := 87) hx hb dMH_ball_70 (by decide) (by omega) (by omega) (fun h22 => ?_) (fun h22 => absurd h22 (by omega))
          refine lv_sipush (v := nI 256) hx hb dMH_ball_87 (by decide) ?_
          refine va_gets hx hb (hEn.2.1 26 _ rfl).1 hS hown (hts _ (wg_t kw_1716)) (fun _ h9 => h9) dMH_ball_90 ?_
          refine lv_aload_n hx hb dMH_ball_93 rfl (lv_at hl 2 rfl) ?_
          refine nw_get (C := "LatticeKeysModel$Hands") (TT := T_MH) (N := 31) hx hb hts (wg_ft i_MH) hown hK hO k_h0 (kn := 225) (ci := 12) (fl := [(3, 172), (3, 181), (3, 226), (3, 291), (3, 299), (3, 308), (3, 317), (3, 326), (3, 334), (3, 342), (3, 350), (3, 359), (3, 368), (3, 369), (3, 370), (3, 371), (3, 372), (3, 373), (3, 374), (3, 375), (3, 376), (3, 377), (3, 378), (0, 0), (0, 0), (0, 0), (0, 0), (0, 0), (0, 0), (0, 0), (0, 0)]) rfl hP rfl 23 (by decide) (hts _ (wg_t kw_1455)) (fun _ h9 => h9) (cd := (0, 0)) rfl dMH_ball_94 (fun v25 hv25 => ?_)
          obtain rfl := (show v25 = .int (s25.1 225 23) from hv25)
          obtain ⟨z22, ez22, hz23, hz24⟩ := cl_of (b := 2147483648) hf55 (by omega) (by decide)
          replace hR := bnd_step hR ez22
          first | rw [bnd_eq, ← ez22] at hE | replace hE := bndP_step hE ez22
          refine mi_as hz23 ?_
          subst hz24
          refine va_ti (v := .int (nI 49)) hx hb (hEn.2.1 26 _ rfl).2 hS (vp_in_nI (by decide) (by decide)) (by decide +kernel) dMH_ball_97 ?_
          refine mi_isub hx hb dMH_ball_98 (by omega) ?_
          refine mi_as (show nI (256 - 49) = nI 207 from rfl) ?_
          refine lv_istore (lv' := [(4, .int (nI 207)), (2, .long y21), (0, .ref h0)]) hx hb dMH_ball_99 hl (by decide) rfl (fun ls hl => ?_)
          have lp23 : ∀ (n23 : Nat) (i23 : Nat) (s26 : Sto) (ps23 : Nat) (pl : va_W) (ls : Array Slot) (H : Heap) (locs : List Loc), n23 + i23 = 256 → (ps23 ≤ 136) → (207 ≤ i23) → frm (M_MH_ball_1) s s26 → s26.1 225 23 = nI 1 → s26.1 225 24 = nI 6 → s26.1 225 25 = nI 5 → s26.1 225 26 = nI 4 → s26.1 225 27 = nI 524288 → s26.1 225 28 = nI 261888 → s26.1 225 29 = nI 196 → s26.1 225 30 = nI 48 → s26.1 172 6 = nI ps23 → s26.1 172 5 = nI x28 → E_MH_ball_1_L2 y21 n23 i23 s26 → F_MH_ball_1 pb s = F_MH_ball_1_L2 y21 n23 i23 s26 → lv_has ls 6 [(4, .int (nI i23)), (2, .long y21), (0, .ref h0)] → okn g T s26 pl → va_P g.1 vcl ([] ++ pl) H → va_D A ([] ++ pl) → va_S A s0.heap H locs → W p l e ({ frames := 4, cells := 0, slots := 0, locals := 90 } : Room) s0 m args below meth c H locs 0 0 (MQ below (va_Qv (fun (u : (Sto) × va_W) => (u.1 = F_MH_ball_1 pb s ∧ frm (M_MH_ball_1) s u.1 ∧ True) ∧ okn g T u.1 u.2) (po g.1 vcl A (fun (u : (Sto) × va_W) => [] ++ u.2)) A) args s0 0 0 A) (F0 m 101 ls []) := by
            intro n23
            induction n23 with
            | zero =>
              intro i23 s26 ps23 pl ls H locs hm23 hi23 hi24 hF hf65 hf66 hf67 hf68 hf69 hf70 hf71 hf72 hf73 hf74 hE hR hl hO hP hD hS
              refine lv_iload hx hb dMH_ball_101 (lv_at hl 0 rfl) ?_
              refine lv_sipush (v := nI 256) hx hb dMH_ball_103 (by decide) ?_
              refine mi_ge (tgt := 193) hx hb dMH_ball_106 (by decide) (by omega) (by omega) (fun h23 => ?_) (fun h23 => absurd h23 (by omega))
              exact mp_vret hx hb hr hlk hP hD hS (s26, pl) ⟨⟨hR.symm, hF, trivial⟩, hO⟩ [] rfl rfl rfl (by omega) (by omega) dMH_ball_193
            | succ n23 ih23 =>
              intro i23 s26 ps23 pl ls H locs hm23 hi23 hi24 hF hf75 hf76 hf77 hf78 hf79 hf80 hf81 hf82 hf83 hf84 hE hR hl hO hP hD hS
              refine lv_iload hx hb dMH_ball_101 (lv_at hl 0 rfl) ?_
              refine lv_sipush (v := nI 256) hx hb dMH_ball_103 (by decide) ?_
              refine mi_ge (tgt := 193) hx hb dMH_ball_106 (by decide) (by omega) (by omega) (fun h24 => absurd h24 (by omega)) (fun h24 => ?_)
              refine lv_aload_n hx hb dMH_ball_109 rfl (lv_at hl 2 rfl) ?_
              refine nw_get (C := "LatticeKeysModel$Hands") (TT := T_MH) (N := 31) hx hb hts (wg_ft i_MH) hown hK hO k_h0 (kn := 225) (ci := 12) (fl := [(3, 172), (3, 181), (3, 226), (3, 291), (3, 299), (3, 308), (3, 317), (3, 326), (3, 334), (3, 342), (3, 350), (3, 359), (3, 368), (3, 369), (3, 370), (3, 371), (3, 372), (3, 373), (3, 374), (3, 375), (3, 376), (3, 377), (3, 378), (0, 0), (0, 0), (0, 0), (0, 0), (0, 0), (0, 0), (0, 0), (0, 0)]) rfl hP rfl 0 (by decide) (hts _ (wg_t kw_1432)) (fun _ h9 => h9) (cd := (3, 172)) rfl dMH_ball_110 (fun v26 hv26 => ?_)
              obtain ⟨r24, rfl, kr24⟩ := (show ∃ r : Nat, v26 = .ref r ∧ T r = some 172 from hv26)
              refine mp_i (cx := []) (wr := []) hP hD hS hA [] [] rfl rfl rfl (by decide) (va_runV (As := []) (rest := []) F (N_MS_next l g _ T s26 pl hO hU r24 ps23 x28 kr24 hf83 hf84 (by omega) (by omega)) (cwV 0 hts (wg_app (wg_c kw_1728 (wg_c kw_1642 (wg_c kw_1643 (wg_c kw_10 wg_n)))) kw_1644) rfl rfl rfl (by decide +kernel) ⟨by decide, by decide⟩) (pn_W "LatticeKeysModel$Sponge" (en_ok g) (ci := 9) (kn := 172) (fl := [(3, 173), (3, 174), (3, 175), (3, 176), (3, 177), (0, 0), (0, 0), (0, 0)]) hK hO kr24 rfl hP hD hS hA hEn [] rfl rfl rfl) rfl rfl hl.1 rfl (lv_room (Nat.le_of_ble_eq_true rfl)) dMH_ball_113 ⟨by omega, by omega⟩) (fun r25 u24 H locs hu24 hP hD hS => ?_)
              obtain ⟨q21, pl⟩ := u24
              obtain ⟨⟨eq24, rfl, hFc24, ⟨x32, hx_32, hb_32⟩, ⟨x30, hx_30, hb_30⟩, ⟨x31, hx_31, hb_31⟩, -⟩, hO⟩ := hu24
              have hO : okn g T q21.2 pl := hO
              have hP : va_P g.1 vcl ([] ++ pl) _ := hP
              have hD : va_D _ ([] ++ pl) := hD
              have hFc24 : frm (M_MS_next) s26 q21.2 := hFc24
              have hb_30 : x30 ≤ x28 := hb_30
              have hb_31 : x31 = x28 := hb_31
              have hb_32 : x32 < 256 := hb_32
              replace hR := bnd_step hR eq24
              first | rw [bnd_eq, ← eq24] at hE | replace hE := bndP_step hE eq24
              have hF := frm_tr hF hFc24 (fun k hk => by unfold M_MS_next at hk; unfold M_MH_ball_1; omega)
              have hf85 : q21.2.1 225 23 = nI 1 := fc_F hf75 hFc24 (by unfold M_MS_next; omega)
              have hf86 : q21.2.1 225 24 = nI 6 := fc_F hf76 hFc24 (by unfold M_MS_next; omega)
              have hf87 : q21.2.1 225 25 = nI 5 := fc_F hf77 hFc24 (by unfold M_MS_next; omega)
              have hf88 : q21.2.1 225 26 = nI 4 := fc_F hf78 hFc24 (by unfold M_MS_next; omega)
              have hf89 : q21.2.1 225 27 = nI 524288 := fc_F hf79 hFc24 (by unfold M_MS_next; omega)
              have hf90 : q21.2.1 225 28 = nI 261888 := fc_F hf80 hFc24 (by unfold M_MS_next; omega)
              have hf91 : q21.2.1 225 29 = nI 196 := fc_F hf81 hFc24 (by unfold M_MS_next; omega)
              have hf92 : q21.2.1 225 30 = nI 48 := fc_F hf82 hFc24 (by unfold M_MS_next; omega)
              obtain ⟨z23, ez23, hz25, hz26⟩ := cl_of (b := 2147483648) hx_32 (by omega) (by decide)
              replace hR := bnd_step hR ez23
              first | rw [bnd_eq, ← ez23] at hE | replace hE := bndP_step hE ez23
              refine mi_as hz25 ?_
              refine W.widen (k := 0) (n := 0) (by omega) (by omega) ?_
              refine lv_istore (lv' := [(5, .int (nI z23)), (4, .int (nI i23)), (2, .long y21), (0, .ref h0)]) hx hb dMH_ball_116 hl (by decide) rfl (fun ls hl => ?_)
              have lp24 : ∀ (n24 : Nat) (jj21 : Nat) (s27 : Sto) (ps24 : Nat) (pl : va_W) (ls : Array Slot) (H : Heap) (locs : List Loc), 0 = 0 → (jj21 < 256) → (ps24 ≤ 136) → frm (M_MH_ball_1) s s27 → s27.1 225 23 = nI 1 → s27.1 225 24 = nI 6 → s27.1 225 25 = nI 5 → s27.1 225 26 = nI 4 → s27.1 225 27 = nI 524288 → s27.1 225 28 = nI 261888 → s27.1 225 29 = nI 196 → s27.1 225 30 = nI 48 → s27.1 172 6 = nI ps24 → s27.1 172 5 = nI x31 → E_MH_ball_1_L3 y21 i23 (E_MH_ball_1_L2 y21 n23) n24 jj21 s27 → F_MH_ball_1 pb s = F_MH_ball_1_L3 y21 i23 (F_MH_ball_1_L2 y21 n23) n24 jj21 s27 → lv_has ls 6 [(5, .int (nI jj21)), (4, .int (nI i23)), (2, .long y21), (0, .ref h0)] → okn g T s27 pl → va_P g.1 vcl ([] ++ pl) H → va_D A ([] ++ pl) → va_S A s0.heap H locs → W p l e ({ frames := 4, cells := 0, slots := 0, locals := 90 } : Room) s0 m args below meth c H locs 0 0 (MQ below (va_Qv (fun (u : (Sto) × va_W) => (u.1 = F_MH_ball_1 pb s ∧ frm (M_MH_ball_1) s u.1 ∧ True) ∧ okn g T u.1 u.2) (po g.1 vcl A (fun (u : (Sto) × va_W) => [] ++ u.2)) A) args s0 0 0 A) (F0 m 118 ls []) := by
                intro n24
                induction n24 with
                | zero =>
                  intro jj21 s27 ps24 pl ls H locs hm24 hi25 hi26 hF hf93 hf94 hf95 hf96 hf97 hf98 hf99 hf100 hf101 hf102 hE hR hl hO hP hD hS
                  refine lv_iload hx hb dMH_ball_118 (lv_at hl 0 rfl) ?_
                  refine lv_iload hx hb dMH_ball_120 (lv_at hl 1 rfl) ?_
                  refine mi_le (tgt := 137) hx hb dMH_ball_122 (by decide) (by omega) (by omega) (fun h25 => ?_) (fun h25 => absurd h25 (by have h9 : jj21 ≤ i23 := hE.1; omega))
                  replace hE := hE.2
                  refine lv_aload_n hx hb dMH_ball_137 rfl (lv_at hl 3 rfl) ?_
                  refine nw_get (C := "LatticeKeysModel$Hands") (TT := T_MH) (N := 31) hx hb hts (wg_ft i_MH) hown hK hO k_h0 (kn := 225) (ci := 12) (fl := [(3, 172), (3, 181), (3, 226), (3, 291), (3, 299), (3, 308), (3, 317), (3, 326), (3, 334), (3, 342), (3, 350), (3, 359), (3, 368), (3, 369), (3, 370), (3, 371), (3, 372), (3, 373), (3, 374), (3, 375), (3, 376), (3, 377), (3, 378), (0, 0), (0, 0), (0, 0), (0, 0), (0, 0), (0, 0), (0, 0), (0, 0)]) rfl hP rfl 12 (by decide) (hts _ (wg_t kw_1444)) (fun _ h9 => h9) (cd := (3, 368)) rfl dMH_ball_138 (fun v27 hv27 => ?_)
                  obtain ⟨r26, rfl, kr25⟩ := (show ∃ r : Nat, v27 = .ref r ∧ T r = some 368 from hv27)
                  refine lv_iload hx hb dMH_ball_141 (lv_at hl 1 rfl) ?_
                  refine lv_aload_n hx hb dMH_ball_143 rfl (lv_at hl 3 rfl) ?_
                  refine nw_get (C := "LatticeKeysModel$Hands") (TT := T_MH) (N := 31) hx hb hts (wg_ft i_MH) hown hK hO k_h0 (kn := 225) (ci := 12) (fl := [(3, 172), (3, 181), (3, 226), (3, 291), (3, 299), (3, 308), (3, 317), (3, 326), (3, 334), (3, 342), (3, 350), (3, 359), (3, 368), (3, 369), (3, 370), (3, 371), (3, 372), (3, 373), (3, 374), (3, 375), (3, 376), (3, 377), (3, 378), (0, 0), (0, 0), (0, 0), (0, 0), (0, 0), (0, 0), (0, 0), (0, 0)]) rfl hP rfl 12 (by decide) (hts _ (wg_t kw_1444)) (fun _ h9 => h9) (cd := (3, 368)) rfl dMH_ball_144 (fun v28 hv28 => ?_)
                  obtain ⟨r27, rfl, kr26⟩ := (show ∃ r : Nat, v28 = .ref r ∧ T r = some 368 from hv28)
                  refine lv_iload hx hb dMH_ball_147 (lv_at hl 0 rfl) ?_
                  refine nw_iald hx hb hK hO kr26 (k := 368) rfl hP (by omega) (by omega) dMH_ball_149 ?_
                  refine nw_iast hx hb hK hO hU kr25 (k := 368) rfl hP hD hS (by omega) (by omega) dMH_ball_150 (fun s28 pl H locs es21 hO hP hD hS => ?_)
                  replace hR := bnd_step hR es21
                  first | rw [bnd_eq, ← es21] at hE | replace hE := bndP_step hE es21
                  have hF := frm_sI hF es21 (by unfold M_MH_ball_1; omega)
                  have hf103 : s28.1 225 23 = nI 1 := fc_ne hf93 es21 (by omega)
                  have hf104 : s28.1 225 24 = nI 6 := fc_ne hf94 es21 (by omega)
                  have hf105 : s28.1 225 25 = nI 5 := fc_ne hf95 es21 (by omega)
                  have hf106 : s28.1 225 26 = nI 4 := fc_ne hf96 es21 (by omega)
                  have hf107 : s28.1 225 27 = nI 524288 := fc_ne hf97 es21 (by omega)
                  have hf108 : s28.1 225 28 = nI 261888 := fc_ne hf98 es21 (by omega)
                  have hf109 : s28.1 225 29 = nI 196 := fc_ne hf99 es21 (by omega)
                  have hf110 : s28.1 225 30 = nI 48 := fc_ne hf100 es21 (by omega)
                  have hf111 : s28.1 172 6 = nI ps24 := fc_ne hf101 es21 (by omega)
                  have hf112 : s28.1 172 5 = nI x31 := fc_ne hf102 es21 (by omega)
                  refine lv_aload_n hx hb dMH_ball_151 rfl (lv_at hl 3 rfl) ?_
                  refine nw_get (C := "LatticeKeysModel$Hands") (TT := T_MH) (N := 31) hx hb hts (wg_ft i_MH) hown hK hO k_h0 (kn := 225) (ci := 12) (fl := [(3, 172), (3, 181), (3, 226), (3, 291), (3, 299), (3, 308), (3, 317), (3, 326), (3, 334), (3, 342), (3, 350), (3, 359), (3, 368), (3, 369), (3, 370), (3, 371), (3, 372), (3, 373), (3, 374), (3, 375), (3, 376), (3, 377), (3, 378), (0, 0), (0, 0), (0, 0), (0, 0), (0, 0), (0, 0), (0, 0), (0, 0)]) rfl hP rfl 12 (by decide) (hts _ (wg_t kw_1444)) (fun _ h9 => h9) (cd := (3, 368)) rfl dMH_ball_152 (fun v29 hv29 => ?_)
                  obtain ⟨r28, rfl, kr27⟩ := (show ∃ r : Nat, v29 = .ref r ∧ T r = some 368 from hv29)
                  refine lv_iload hx hb dMH_ball_155 (lv_at hl 0 rfl) ?_
                  refine lv_lload_n hx hb dMH_ball_157 rfl (lv_at hl 2 rfl) ?_
                  refine lv_iload hx hb dMH_ball_158 (lv_at hl 1 rfl) ?_
                  refine va_gets hx hb (hEn.2.1 26 _ rfl).1 hS hown (hts _ (wg_t kw_1716)) (fun _ h9 => h9) dMH_ball_160 ?_
                  refine lv_aload_n hx hb dMH_ball_163 rfl (lv_at hl 3 rfl) ?_
                  refine nw_get (C := "LatticeKeysModel$Hands") (TT := T_MH) (N := 31) hx hb hts (wg_ft i_MH) hown hK hO k_h0 (kn := 225) (ci := 12) (fl := [(3, 172), (3, 181), (3, 226), (3, 291), (3, 299), (3, 308), (3, 317), (3, 326), (3, 334), (3, 342), (3, 350), (3, 359), (3, 368), (3, 369), (3, 370), (3, 371), (3, 372), (3, 373), (3, 374), (3, 375), (3, 376), (3, 377), (3, 378), (0, 0), (0, 0), (0, 0), (0, 0), (0, 0), (0, 0), (0, 0), (0, 0)]) rfl hP rfl 23 (by decide) (hts _ (wg_t kw_1455)) (fun _ h9 => h9) (cd := (0, 0)) rfl dMH_ball_164 (fun v30 hv30 => ?_)
                  obtain rfl := (show v30 = .int (s28.1 225 23) from hv30)
                  obtain ⟨z24, ez24, hz27, hz28⟩ := cl_of (b := 2147483648) hf103 (by omega) (by decide)
                  replace hR := bnd_step hR ez24
                  first | rw [bnd_eq, ← ez24] at hE | replace hE := bndP_step hE ez24
                  refine mi_as hz27 ?_
                  subst hz28
                  refine va_ti (v := .int (nI 49)) hx hb (hEn.2.1 26 _ rfl).2 hS (vp_in_nI (by decide) (by decide)) (by decide +kernel) dMH_ball_167 ?_
                  refine mi_iadd hx hb dMH_ball_168 ?_
                  refine lv_sipush (v := nI 256) hx hb dMH_ball_169 (by decide) ?_
                  refine lv_isub hx hb dMH_ball_172 ?_
                  refine lv_lushr hx hb dMH_ball_173 rfl ?_
                  refine lv_lconst (v := 1) hx hb dMH_ball_174 (by decide) ?_
                  refine lv_land hx hb dMH_ball_175 ?_
                  refine lv_lconst (v := 1) hx hb dMH_ball_176 (by decide) ?_
                  refine W.lcmp hx hb dMH_ball_177 ?_
                  refine lv_if_ne (tgt := 185) hx hb dMH_ball_178 (by decide) (fun h26 => ?_) (fun h26 => ?_)
                  · replace hR := hR.trans (if_neg h26)
                    first | rw [if_neg h26] at hE | rw [E_MH_ball_1_L0, if_neg h26] at hE | rw [E_MH_ball_1_L1, if_neg h26] at hE | rw [E_MH_ball_1_L2, if_neg h26] at hE | rw [E_MH_ball_1_L3, if_neg h26] at hE | rw [E_MH_ball_1_L4, if_neg h26] at hE | rw [E_MH_ball_1_L5, if_neg h26] at hE | rw [E_MH_ball_1_L6, if_neg h26] at hE | rw [E_MH_ball_1_L7, if_neg h26] at hE | rw [E_MH_ball_1_L8, if_neg h26] at hE | replace hE := iteP_neg h26 hE
                    refine lv_iconst (v := nI 1) hx hb dMH_ball_185 (by decide) ?_
                    refine nw_iast hx hb hK hO hU kr27 (k := 368) rfl hP hD hS (by omega) (by omega) dMH_ball_186 (fun s29 pl H locs es22 hO hP hD hS => ?_)
                    replace hR := bnd_step hR es22
                    first | rw [bnd_eq, ← es22] at hE | replace hE := bndP_step hE es22
                    have hF := frm_sI hF es22 (by unfold M_MH_ball_1; omega)
                    have hf113 : s29.1 225 23 = nI 1 := fc_ne hf103 es22 (by omega)
                    have hf114 : s29.1 225 24 = nI 6 := fc_ne hf104 es22 (by omega)
                    have hf115 : s29.1 225 25 = nI 5 := fc_ne hf105 es22 (by omega)
                    have hf116 : s29.1 225 26 = nI 4 := fc_ne hf106 es22 (by omega)
                    have hf117 : s29.1 225 27 = nI 524288 := fc_ne hf107 es22 (by omega)
                    have hf118 : s29.1 225 28 = nI 261888 := fc_ne hf108 es22 (by omega)
                    have hf119 : s29.1 225 29 = nI 196 := fc_ne hf109 es22 (by omega)
                    have hf120 : s29.1 225 30 = nI 48 := fc_ne hf110 es22 (by omega)
                    have hf121 : s29.1 172 6 = nI ps24 := fc_ne hf111 es22 (by omega)
                    have hf122 : s29.1 172 5 = nI x31 := fc_ne hf112 es22 (by omega)
                    refine mi_iinc (k := 1) (x := i23) (d := 1) (y := i23 + 1) (lv' := [(4, .int (nI (i23 + 1))), (5, .int (nI jj21)), (2, .long y21), (0, .ref h0)]) hx hb dMH_ball_187 hl rfl (by decide) rfl (by decide) rfl (fun ls hl => ?_)
                    refine lv_goto (tgt := 101) hx hb dMH_ball_190 (by decide) ?_
                    exact ih23 (i23 + 1) s29 ps24 pl ls H locs (by omega) (by omega) (by omega) hF hf113 hf114 hf115 hf116 hf117 hf118 hf119 hf120 hf121 (by have h9 := hf122; rw [show x31 = x28 by omega] at h9; exact h9) hE hR (lv_sub hl [0, 2, 3] rfl) hO hP hD hS
                  · replace hR := hR.trans (if_pos h26)
                    first | rw [if_pos h26] at hE | rw [E_MH_ball_1_L0, if_pos h26] at hE | rw [E_MH_ball_1_L1, if_pos h26] at hE | rw [E_MH_ball_1_L2, if_pos h26] at hE | rw [E_MH_ball_1_L3, if_pos h26] at hE | rw [E_MH_ball_1_L4, if_pos h26] at hE | rw [E_MH_ball_1_L5, if_pos h26] at hE | rw [E_MH_ball_1_L6, if_pos h26] at hE | rw [E_MH_ball_1_L7, if_pos h26] at hE | rw [E_MH_ball_1_L8, if_pos h26] at hE | replace hE := iteP_pos h26 hE
                    refine lv_iconst (v := (-1)) hx hb dMH_ball_181 (by decide) ?_
                    refine lv_goto (tgt := 186) hx hb dMH_ball_182 (by decide) ?_
                    refine nw_iast hx hb hK hO hU kr27 (k := 368) rfl hP hD hS (by omega) (by omega) dMH_ball_186 (fun s30 pl H locs es23 hO hP hD hS => ?_)
                    replace hR := bnd_step hR es23
                    first | rw [bnd_eq, ← es23] at hE | replace hE := bndP_step hE es23
                    have hF := frm_sI hF es23 (by unfold M_MH_ball_1; omega)
                    have hf123 : s30.1 225 23 = nI 1 := fc_ne hf103 es23 (by omega)
                    have hf124 : s30.1 225 24 = nI 6 := fc_ne hf104 es23 (by omega)
                    have hf125 : s30.1 225 25 = nI 5 := fc_ne hf105 es23 (by omega)
                    have hf126 : s30.1 225 26 = nI 4 := fc_ne hf106 es23 (by omega)
                    have hf127 : s30.1 225 27 = nI 524288 := fc_ne hf107 es23 (by omega)
                    have hf128 : s30.1 225 28 = nI 261888 := fc_ne hf108 es23 (by omega)
                    have hf129 : s30.1 225 29 = nI 196 := fc_ne hf109 es23 (by omega)
                    have hf130 : s30.1 225 30 = nI 48 := fc_ne hf110 es23 (by omega)
                    have hf131 : s30.1 172 6 = nI ps24 := fc_ne hf111 es23 (by omega)
                    have hf132 : s30.1 172 5 = nI x31 := fc_ne hf112 es23 (by omega)
                    refine mi_iinc (k := 1) (x := i23) (d := 1) (y := i23 + 1) (lv' := [(4, .int (nI (i23 + 1))), (5, .int (nI jj21)), (2, .long y21), (0, .ref h0)]) hx hb dMH_ball_187 hl rfl (by decide) rfl (by decide) rfl (fun ls hl => ?_)
                    refine lv_goto (tgt := 101) hx hb dMH_ball_190 (by decide) ?_
                    exact ih23 (i23 + 1) s30 ps24 pl ls H locs (by omega) (by omega) (by omega) hF hf123 hf124 hf125 hf126 hf127 hf128 hf129 hf130 hf131 (by have h9 := hf132; rw [show x31 = x28 by omega] at h9; exact h9) hE hR (lv_sub hl [0, 2, 3] rfl) hO hP hD hS
                | succ n24 ih24 =>
                  intro jj21 s27 ps24 pl ls H locs hm24 hi25 hi26 hF hf133 hf134 hf135 hf136 hf137 hf138 hf139 hf140 hf141 hf142 hE hR hl hO hP hD hS
                  refine lv_iload hx hb dMH_ball_118 (lv_at hl 0 rfl) ?_
                  refine lv_iload hx hb dMH_ball_120 (lv_at hl 1 rfl) ?_
                  refine mi_le (tgt := 137) hx hb dMH_ball_122 (by decide) (by omega) (by omega) (fun h27 => ?_) (fun h27 => ?_)
                  · replace hR := hR.trans (if_pos h27)
                    first | rw [if_pos h27] at hE | rw [E_MH_ball_1_L0, if_pos h27] at hE | rw [E_MH_ball_1_L1, if_pos h27] at hE | rw [E_MH_ball_1_L2, if_pos h27] at hE | rw [E_MH_ball_1_L3, if_pos h27] at hE | rw [E_MH_ball_1_L4, if_pos h27] at hE | rw [E_MH_ball_1_L5, if_pos h27] at hE | rw [E_MH_ball_1_L6, if_pos h27] at hE | rw [E_MH_ball_1_L7, if_pos h27] at hE | rw [E_MH_ball_1_L8, if_pos h27] at hE | replace hE := iteP_pos h27 hE
                    refine lv_aload_n hx hb dMH_ball_137 rfl (lv_at hl 3 rfl) ?_
                    refine nw_get (C := "LatticeKeysModel$Hands") (TT := T_MH) (N := 31) hx hb hts (wg_ft i_MH) hown hK hO k_h0 (kn := 225) (ci := 12) (fl := [(3, 172), (3, 181), (3, 226), (3, 291), (3, 299), (3, 308), (3, 317), (3, 326), (3, 334), (3, 342), (3, 350), (3, 359), (3, 368), (3, 369), (3, 370), (3, 371), (3, 372), (3, 373), (3, 374), (3, 375), (3, 376), (3, 377), (3, 378), (0, 0), (0, 0), (0, 0), (0, 0), (0, 0), (0, 0), (0, 0), (0, 0)]) rfl hP rfl 12 (by decide) (hts _ (wg_t kw_1444)) (fun _ h9 => h9) (cd := (3, 368)) rfl dMH_ball_138 (fun v31 hv31 => ?_)
                    obtain ⟨r29, rfl, kr28⟩ := (show ∃ r : Nat, v31 = .ref r ∧ T r = some 368 from hv31)
                    refine lv_iload hx hb dMH_ball_141 (lv_at hl 1 rfl) ?_
                    refine lv_aload_n hx hb dMH_ball_143 rfl (lv_at hl 3 rfl) ?_
                    refine nw_get (C := "LatticeKeysModel$Hands") (TT := T_MH) (N := 31) hx hb hts (wg_ft i_MH) hown hK hO k_h0 (kn := 225) (ci := 12) (fl := [(3, 172), (3, 181), (3, 226), (3, 291), (3, 299), (3, 308), (3, 317), (3, 326), (3, 334), (3, 342), (3, 350), (3, 359), (3, 368), (3, 369), (3, 370), (3, 371), (3, 372), (3, 373), (3, 374), (3, 375), (3, 376), (3, 377), (3, 378), (0, 0), (0, 0), (0, 0), (0, 0), (0, 0), (0, 0), (0, 0), (0, 0)]) rfl hP rfl 12 (by decide) (hts _ (wg_t kw_1444)) (fun _ h9 => h9) (cd := (3, 368)) rfl dMH_ball_144 (fun v32 hv32 => ?_)
                    obtain ⟨r30, rfl, kr29⟩ := (show ∃ r : Nat, v32 = .ref r ∧ T r = some 368 from hv32)
                    refine lv_iload hx hb dMH_ball_147 (lv_at hl 0 rfl) ?_
                    refine nw_iald hx hb hK hO kr29 (k := 368) rfl hP (by omega) (by omega) dMH_ball_149 ?_
                    refine nw_iast hx hb hK hO hU kr28 (k := 368) rfl hP hD hS (by omega) (by omega) dMH_ball_150 (fun s31 pl H locs es24 hO hP hD hS => ?_)
                    replace hR := bnd_step hR es24
                    first | rw [bnd_eq, ← es24] at hE | replace hE := bndP_step hE es24
                    have hF := frm_sI hF es24 (by unfold M_MH_ball_1; omega)
                    have hf143 : s31.1 225 23 = nI 1 := fc_ne hf133 es24 (by omega)
                    have hf144 : s31.1 225 24 = nI 6 := fc_ne hf134 es24 (by omega)
                    have hf145 : s31.1 225 25 = nI 5 := fc_ne hf135 es24 (by omega)
                    have hf146 : s31.1 225 26 = nI 4 := fc_ne hf136 es24 (by omega)
                    have hf147 : s31.1 225 27 = nI 524288 := fc_ne hf137 es24 (by omega)
                    have hf148 : s31.1 225 28 = nI 261888 := fc_ne hf138 es24 (by omega)
                    have hf149 : s31.1 225 29 = nI 196 := fc_ne hf139 es24 (by omega)
                    have hf150 : s31.1 225 30 = nI 48 := fc_ne hf140 es24 (by omega)
                    have hf151 : s31.1 172 6 = nI ps24 := fc_ne hf141 es24 (by omega)
                    have hf152 : s31.1 172 5 = nI x31 := fc_ne hf142 es24 (by omega)
                    refine lv_aload_n hx hb dMH_ball_151 rfl (lv_at hl 3 rfl) ?_
                    refine nw_get (C := "LatticeKeysModel$Hands") (TT := T_MH) (N := 31) hx hb hts (wg_ft i_MH) hown hK hO k_h0 (kn := 225) (ci := 12) (fl := [(3, 172), (3, 181), (3, 226), (3, 291), (3, 299), (3, 308), (3, 317), (3, 326), (3, 334), (3, 342), (3, 350), (3, 359), (3, 368), (3, 369), (3, 370), (3, 371), (3, 372), (3, 373), (3, 374), (3, 375), (3, 376), (3, 377), (3, 378), (0, 0), (0, 0), (0, 0), (0, 0), (0, 0), (0, 0), (0, 0), (0, 0)]) rfl hP rfl 12 (by decide) (hts _ (wg_t kw_1444)) (fun _ h9 => h9) (cd := (3, 368)) rfl dMH_ball_152 (fun v33 hv33 => ?_)
                    obtain ⟨r31, rfl, kr30⟩ := (show ∃ r : Nat, v33 = .ref r ∧ T r = some 368 from hv33)
                    refine lv_iload hx hb dMH_ball_155 (lv_at hl 0 rfl) ?_
                    refine lv_lload_n hx hb dMH_ball_157 rfl (lv_at hl 2 rfl) ?_
                    refine lv_iload hx hb dMH_ball_158 (lv_at hl 1 rfl) ?_
                    refine va_gets hx hb (hEn.2.1 26 _ rfl).1 hS hown (hts _ (wg_t kw_1716)) (fun _ h9 => h9) dMH_ball_160 ?_
                    refine lv_aload_n hx hb dMH_ball_163 rfl (lv_at hl 3 rfl) ?_
                    refine nw_get (C := "LatticeKeysModel$Hands") (TT := T_MH) (N := 31) hx hb hts (wg_ft i_MH) hown hK hO k_h0 (kn := 225) (ci := 12) (fl := [(3, 172), (3, 181), (3, 226), (3, 291), (3, 299), (3, 308), (3, 317), (3, 326), (3, 334), (3, 342), (3, 350), (3, 359), (3, 368), (3, 369), (3, 370), (3, 371), (3, 372), (3, 373), (3, 374), (3, 375), (3, 376), (3, 377), (3, 378), (0, 0), (0, 0), (0, 0), (0, 0), (0, 0), (0, 0), (0, 0), (0, 0)]) rfl hP rfl 23 (by decide) (hts _ (wg_t kw_1455)) (fun _ h9 => h9) (cd := (0, 0)) rfl dMH_ball_164 (fun v34 hv34 => ?_)
                    obtain rfl := (show v34 = .int (s31.1 225 23) from hv34)
                    obtain ⟨z25, ez25, hz29, hz30⟩ := cl_of (b := 2147483648) hf143 (by omega) (by decide)
                    replace hR := bnd_step hR ez25
                    first | rw [bnd_eq, ← ez25] at hE | replace hE := bndP_step hE ez25
                    refine mi_as hz29 ?_
                    subst hz30
                    refine va_ti (v := .int (nI 49)) hx hb (hEn.2.1 26 _ rfl).2 hS (vp_in_nI (by decide) (by decide)) (by decide +kernel) dMH_ball_167 ?_
                    refine mi_iadd hx hb dMH_ball_168 ?_
                    refine lv_sipush (v := nI 256) hx hb dMH_ball_169 (by decide) ?_
                    refine lv_isub hx hb dMH_ball_172 ?_
                    refine lv_lushr hx hb dMH_ball_173 rfl ?_
                    refine lv_lconst (v := 1) hx hb dMH_ball_174 (by decide) ?_
                    refine lv_land hx hb dMH_ball_175 ?_
                    refine lv_lconst (v := 1) hx hb dMH_ball_176 (by decide) ?_
                    refine W.lcmp hx hb dMH_ball_177 ?_
                    refine lv_if_ne (tgt := 185) hx hb dMH_ball_178 (by decide) (fun h28 => ?_) (fun h28 => ?_)
                    · replace hR := hR.trans (if_neg h28)
                      first | rw [if_neg h28] at hE | rw [E_MH_ball_1_L0, if_neg h28] at hE | rw [E_MH_ball_1_L1, if_neg h28] at hE | rw [E_MH_ball_1_L2, if_neg h28] at hE | rw [E_MH_ball_1_L3, if_neg h28] at hE | rw [E_MH_ball_1_L4, if_neg h28] at hE | rw [E_MH_ball_1_L5, if_neg h28] at hE | rw [E_MH_ball_1_L6, if_neg h28] at hE | rw [E_MH_ball_1_L7, if_neg h28] at hE | rw [E_MH_ball_1_L8, if_neg h28] at hE | replace hE := iteP_neg h28 hE
                      refine lv_iconst (v := nI 1) hx hb dMH_ball_185 (by decide) ?_
                      refine nw_iast hx hb hK hO hU kr30 (k := 368) rfl hP hD hS (by omega) (by omega) dMH_ball_186 (fun s32 pl H locs es25 hO hP hD hS => ?_)
                      replace hR := bnd_step hR es25
                      first | rw [bnd_eq, ← es25] at hE | replace hE := bndP_step hE es25
                      have hF := frm_sI hF es25 (by unfold M_MH_ball_1; omega)
                      have hf153 : s32.1 225 23 = nI 1 := fc_ne hf143 es25 (by omega)
                      have hf154 : s32.1 225 24 = nI 6 := fc_ne hf144 es25 (by omega)
                      have hf155 : s32.1 225 25 = nI 5 := fc_ne hf145 es25 (by omega)
                      have hf156 : s32.1 225 26 = nI 4 := fc_ne hf146 es25 (by omega)
                      have hf157 : s32.1 225 27 = nI 524288 := fc_ne hf147 es25 (by omega)
                      have hf158 : s32.1 225 28 = nI 261888 := fc_ne hf148 es25 (by omega)
                      have hf159 : s32.1 225 29 = nI 196 := fc_ne hf149 es25 (by omega)
                      have hf160 : s32.1 225 30 = nI 48 := fc_ne hf150 es25 (by omega)
                      have hf161 : s32.1 172 6 = nI ps24 := fc_ne hf151 es25 (by omega)
                      have hf162 : s32.1 172 5 = nI x31 := fc_ne hf152 es25 (by omega)
                      refine mi_iinc (k := 1) (x := i23) (d := 1) (y := i23 + 1) (lv' := [(4, .int (nI (i23 + 1))), (5, .int (nI jj21)), (2, .long y21), (0, .ref h0)]) hx hb dMH_ball_187 hl rfl (by decide) rfl (by decide) rfl (fun ls hl => ?_)
                      refine lv_goto (tgt := 101) hx hb dMH_ball_190 (by decide) ?_
                      exact ih23 (i23 + 1) s32 ps24 pl ls H locs (by omega) (by omega) (by omega) hF hf153 hf154 hf155 hf156 hf157 hf158 hf159 hf160 hf161 (by have h9 := hf162; rw [show x31 = x28 by omega] at h9; exact h9) hE hR (lv_sub hl [0, 2, 3] rfl) hO hP hD hS
                    · replace hR := hR.trans (if_pos h28)
                      first | rw [if_pos h28] at hE | rw [E_MH_ball_1_L0, if_pos h28] at hE | rw [E_MH_ball_1_L1, if_pos h28] at hE | rw [E_MH_ball_1_L2, if_pos h28] at hE | rw [E_MH_ball_1_L3, if_pos h28] at hE | rw [E_MH_ball_1_L4, if_pos h28] at hE | rw [E_MH_ball_1_L5, if_pos h28] at hE | rw [E_MH_ball_1_L6, if_pos h28] at hE | rw [E_MH_ball_1_L7, if_pos h28] at hE | rw [E_MH_ball_1_L8, if_pos h28] at hE | replace hE := iteP_pos h28 hE
                      refine lv_iconst (v := (-1)) hx hb dMH_ball_181 (by decide) ?_
                      refine lv_goto (tgt := 186) hx hb dMH_ball_182 (by decide) ?_
                      refine nw_iast hx hb hK hO hU kr30 (k := 368) rfl hP hD hS (by omega) (by omega) dMH_ball_186 (fun s33 pl H locs es26 hO hP hD hS => ?_)
                      replace hR := bnd_step hR es26
                      first | rw [bnd_eq, ← es26] at hE | replace hE := bndP_step hE es26
                      have hF := frm_sI hF es26 (by unfold M_MH_ball_1; omega)
                      have hf163 : s33.1 225 23 = nI 1 := fc_ne hf143 es26 (by omega)
                      have hf164 : s33.1 225 24 = nI 6 := fc_ne hf144 es26 (by omega)
                      have hf165 : s33.1 225 25 = nI 5 := fc_ne hf145 es26 (by omega)
                      have hf166 : s33.1 225 26 = nI 4 := fc_ne hf146 es26 (by omega)
                      have hf167 : s33.1 225 27 = nI 524288 := fc_ne hf147 es26 (by omega)
                      have hf168 : s33.1 225 28 = nI 261888 := fc_ne hf148 es26 (by omega)
                      have hf169 : s33.1 225 29 = nI 196 := fc_ne hf149 es26 (by omega)
                      have hf170 : s33.1 225 30 = nI 48 := fc_ne hf150 es26 (by omega)
                      have hf171 : s33.1 172 6 = nI ps24 := fc_ne hf151 es26 (by omega)
                      have hf172 : s33.1 172 5 = nI x31 := fc_ne hf152 es26 (by omega)
                      refine mi_iinc (k := 1) (x := i23) (d := 1) (y := i23 + 1) (lv' := [(4, .int (nI (i23 + 1))), (5, .int (nI jj21)), (2, .long y21), (0, .ref h0)]) hx hb dMH_ball_187 hl rfl (by decide) rfl (by decide) rfl (fun ls hl => ?_)
                      refine lv_goto (tgt := 101) hx hb dMH_ball_190 (by decide) ?_
                      exact ih23 (i23 + 1) s33 ps24 pl ls H locs (by omega) (by omega) (by omega) hF hf163 hf164 hf165 hf166 hf167 hf168 hf169 hf170 hf171 (by have h9 := hf172; rw [show x31 = x28 by omega] at h9; exact h9) hE hR (lv_sub hl [0, 2, 3] rfl) hO hP hD hS
                  · replace hR := hR.trans (if_neg (Nat.not_le.mpr h27))
                    first | rw [if_neg (Nat.not_le.mpr h27)] at hE | rw [E_MH_ball_1_L0, if_neg (Nat.not_le.mpr h27)] at hE | rw [E_MH_ball_1_L1, if_neg (Nat.not_le.mpr h27)] at hE | rw [E_MH_ball_1_L2, if_neg (Nat.not_le.mpr h27)] at hE | rw [E_MH_ball_1_L3, if_neg (Nat.not_le.mpr h27)] at hE | rw [E_MH_ball_1_L4, if_neg (Nat.not_le.mpr h27)] at hE | rw [E_MH_ball_1_L5, if_neg (Nat.not_le.mpr h27)] at hE | rw [E_MH_ball_1_L6, if_neg (Nat.not_le.mpr h27)] at hE | rw [E_MH_ball_1_L7, if_neg (Nat.not_le.mpr h27)] at hE | rw [E_MH_ball_1_L8, if_neg (Nat.not_le.mpr h27)] at hE | replace hE := iteP_neg (Nat.not_le.mpr h27) hE
                    refine lv_aload_n hx hb dMH_ball_125 rfl (lv_at hl 3 rfl) ?_
                    refine nw_get (C := "LatticeKeysModel$Hands") (TT := T_MH) (N := 31) hx hb hts (wg_ft i_MH) hown hK hO k_h0 (kn := 225) (ci := 12) (fl := [(3, 172), (3, 181), (3, 226), (3, 291), (3, 299), (3, 308), (3, 317), (3, 326), (3, 334), (3, 342), (3, 350), (3, 359), (3, 368), (3, 369), (3, 370), (3, 371), (3, 372), (3, 373), (3, 374), (3, 375), (3, 376), (3, 377), (3, 378), (0, 0), (0, 0), (0, 0), (0, 0), (0, 0), (0, 0), (0, 0), (0, 0)]) rfl hP rfl 0 (by decide) (hts _ (wg_t kw_1432)) (fun _ h9 => h9) (cd := (3, 172)) rfl dMH_ball_126 (fun v35 hv35 => ?_)
                    obtain ⟨r32, rfl, kr31⟩ := (show ∃ r : Nat, v35 = .ref r ∧ T r = some 172 from hv35)
                    refine mp_i (cx := []) (wr := []) hP hD hS hA [] [] rfl rfl rfl (by decide) (va_runV (As := []) (rest := []) F (N_MS_next l g _ T s27 pl hO hU r32 ps24 x31 kr31 hf141 hf142 (by omega) (by omega)) (cwV 0 hts (wg_app (wg_c kw_1728 (wg_c kw_1642 (wg_c kw_1643 (wg_c kw_10 wg_n)))) kw_1644) rfl rfl rfl (by decide +kernel) ⟨by decide, by decide⟩) (pn_W "LatticeKeysModel$Sponge" (en_ok g) (ci := 9) (kn := 172) (fl := [(3, 173), (3, 174), (3, 175), (3, 176), (3, 177), (0, 0), (0, 0), (0, 0)]) hK hO kr31 rfl hP hD hS hA hEn [] rfl rfl rfl) rfl rfl hl.1 rfl (lv_room (Nat.le_of_ble_eq_true rfl)) dMH_ball_129 ⟨by omega, by omega⟩) (fun r33 u25 H locs hu25 hP hD hS => ?_)
                    obtain ⟨q22, pl⟩ := u25
                    obtain ⟨⟨eq25, rfl, hFc25, ⟨x35, hx_35, hb_35⟩, ⟨x33, hx_33, hb_33⟩, ⟨x34, hx_34, hb_34⟩, -⟩, hO⟩ := hu25
                    have hO : okn g T q22.2 pl := hO
                    have hP : va_P g.1 vcl ([] ++ pl) _ := hP
                    have hD : va_D _ ([] ++ pl) := hD
                    have hFc25 : frm (M_MS_next) s27 q22.2 := hFc25
                    have hb_33 : x33 ≤ x31 := hb_33
                    have hb_34 : x34 = x31 := hb_34
                    have hb_35 : x35 < 256 := hb_35
                    replace hR := bnd_step hR eq25
                    first | rw [bnd_eq, ← eq25] at hE | replace hE := bndP_step hE eq25
                    have hF := frm_tr hF hFc25 (fun k hk => by unfold M_MS_next at hk; unfold M_MH_ball_1; omega)
                    have hf173 : q22.2.1 225 23 = nI 1 := fc_F hf133 hFc25 (by unfold M_MS_next; omega)
                    have hf174 : q22.2.1 225 24 = nI 6 := fc_F hf134 hFc25 (by unfold M_MS_next; omega)
                    have hf175 : q22.2.1 225 25 = nI 5 := fc_F hf135 hFc25 (by unfold M_MS_next; omega)
                    have hf176 : q22.2.1 225 26 = nI 4 := fc_F hf136 hFc25 (by unfold M_MS_next; omega)
                    have hf177 : q22.2.1 225 27 = nI 524288 := fc_F hf137 hFc25 (by unfold M_MS_next; omega)
                    have hf178 : q22.2.1 225 28 = nI 261888 := fc_F hf138 hFc25 (by unfold M_MS_next; omega)
                    have hf179 : q22.2.1 225 29 = nI 196 := fc_F hf139 hFc25 (by unfold M_MS_next; omega)
                    have hf180 : q22.2.1 225 30 = nI 48 := fc_F hf140 hFc25 (by unfold M_MS_next; omega)
                    obtain ⟨z26, ez26, hz31, hz32⟩ := cl_of (b := 2147483648) hx_35 (by omega) (by decide)
                    replace hR := bnd_step hR ez26
                    first | rw [bnd_eq, ← ez26] at hE | replace hE := bndP_step hE ez26
                    refine mi_as hz31 ?_
                    refine W.widen (k := 0) (n := 0) (by omega) (by omega) ?_
                    refine lv_istore (lv' := [(5, .int (nI z26)), (4, .int (nI i23)), (2, .long y21), (0, .ref h0)]) hx hb dMH_ball_132 hl (by decide) rfl (fun ls hl => ?_)
                    refine lv_goto (tgt := 118) hx hb dMH_ball_134 (by decide) ?_
                    exact ih24 z26 q22.2 x33 pl ls H locs (by omega) (by omega) (by omega) hF hf173 hf174 hf175 hf176 hf177 hf178 hf179 hf180 hx_33 (by have h9 := hx_34; rw [show x34 = x31 by omega] at h9; exact h9) hE hR (lv_sub hl [0, 1, 2, 3] rfl) hO hP hD hS
              exact lp24 fuelM z23 q21.2 x30 pl ls _ _ (by omega) (by omega) (by omega) hF hf85 hf86 hf87 hf88 hf89 hf90 hf91 hf92 hx_30 hx_31 hE hR (lv_sub hl [0, 1, 2, 3] rfl) hO hP hD hS
          exact lp23 (256 - 207) 207 s25 ps22 pl ls _ _ (by omega) (by omega) (by omega) hF hf55 hf56 hf57 hf58 hf59 hf60 hf61 hf62 hf63 hf64 hE hR (lv_sub hl [0, 1, 2] rfl) hO hP hD hS
        | succ n22 ih22 =>
          intro i22 s25 ps22 pl ls H locs hm22 hi22 hF hf181 hf182 hf183 hf184 hf185 hf186 hf187 hf188 hf189 hf190 hE hR hl hO hP hD hS
          refine lv_iload hx hb dMH_ball_65 (lv_at hl 0 rfl) ?_
          refine lv_sipush (v := nI 256) hx hb dMH_ball_67 (by decide) ?_
          refine mi_ge (tgt := 87) hx hb dMH_ball_70 (by decide) (by omega) (by omega) (fun h29 => absurd h29 (by omega)) (fun h29 => ?_)
          refine lv_aload_n hx hb dMH_ball_73 rfl (lv_at hl 2 rfl) ?_
          refine nw_get (C := "LatticeKeysModel$Hands") (TT := T_MH) (N := 31) hx hb hts (wg_ft i_MH) hown hK hO k_h0 (kn := 225) (ci := 12) (fl := [(3, 172), (3, 181), (3, 226), (3, 291), (3, 299), (3, 308), (3, 317), (3, 326), (3, 334), (3, 342), (3, 350), (3, 359), (3, 368), (3, 369), (3, 370), (3, 371), (3, 372), (3, 373), (3, 374), (3, 375), (3, 376), (3, 377), (3, 378), (0, 0), (0, 0), (0, 0), (0, 0), (0, 0), (0, 0), (0, 0), (0, 0)]) rfl hP rfl 12 (by decide) (hts _ (wg_t kw_1444)) (fun _ h9 => h9) (cd := (3, 368)) rfl dMH_ball_74 (fun v36 hv36 => ?_)
          obtain ⟨r34, rfl, kr32⟩ := (show ∃ r : Nat, v36 = .ref r ∧ T r = some 368 from hv36)
          refine lv_iload hx hb dMH_ball_77 (lv_at hl 0 rfl) ?_
          refine lv_iconst (v := nI 0) hx hb dMH_ball_79 (by decide) ?_
          refine nw_iast hx hb hK hO hU kr32 (k := 368) rfl hP hD hS (by omega) (by omega) dMH_ball_80 (fun s34 pl H locs es27 hO hP hD hS => ?_)
          replace hR := bnd_step hR es27
          first | rw [bnd_eq, ← es27] at hE | replace hE := bndP_step hE es27
          have hF := frm_sI hF es27 (by unfold M_MH_ball_1; omega)
          have hf191 : s34.1 225 23 = nI 1 := fc_ne hf181 es27 (by omega)
          have hf192 : s34.1 225 24 = nI 6 := fc_ne hf182 es27 (by omega)
          have hf193 : s34.1 225 25 = nI 5 := fc_ne hf183 es27 (by omega)
          have hf194 : s34.1 225 26 = nI 4 := fc_ne hf184 es27 (by omega)
          have hf195 : s34.1 225 27 = nI 524288 := fc_ne hf185 es27 (by omega)
          have hf196 : s34.1 225 28 = nI 261888 := fc_ne hf186 es27 (by omega)
          have hf197 : s34.1 225 29 = nI 196 := fc_ne hf187 es27 (by omega)
          have hf198 : s34.1 225 30 = nI 48 := fc_ne hf188 es27 (by omega)
          have hf199 : s34.1 172 6 = nI ps22 := fc_ne hf189 es27 (by omega)
          have hf200 : s34.1 172 5 = nI x28 := fc_ne hf190 es27 (by omega)
          refine mi_iinc (k := 0) (x := i22) (d := 1) (y := i22 + 1) (lv' := [(4, .int (nI (i22 + 1))), (2, .long y21), (0, .ref h0)]) hx hb dMH_ball_81 hl rfl (by decide) rfl (by decide) rfl (fun ls hl => ?_)
          refine lv_goto (tgt := 65) hx hb dMH_ball_84 (by decide) ?_
          exact ih22 (i22 + 1) s34 ps22 pl ls H locs (by omega) (by omega) hF hf191 hf192 hf193 hf194 hf195 hf196 hf197 hf198 hf199 hf200 hE hR (lv_sub hl [0, 1, 2] rfl) hO hP hD hS
      exact lp22 256 0 s24 ps21 pl ls _ _ (by omega) (by omega) hF hf45 hf46 hf47 hf48 hf49 hf50 hf51 hf52 hf53 hf54 hE hR (lv_sub hl [0, 1, 2] rfl) hO hP hD hS
    | succ n21 ih21 =>
      intro i21 y21 s24 ps21 pl ls H locs hm21 hi21 hF hf201 hf202 hf203 hf204 hf205 hf206 hf207 hf208 hf209 hf210 hE hR hl hO hP hD hS
      refine lv_iload hx hb dMH_ball_32 (lv_at hl 0 rfl) ?_
      refine lv_bipush (v := nI 8) hx hb dMH_ball_34 (by decide) ?_
      refine mi_ge (tgt := 62) hx hb dMH_ball_36 (by decide) (by omega) (by omega) (fun h30 => absurd h30 (by omega)) (fun h30 => ?_)
      refine lv_lload_n hx hb dMH_ball_39 rfl (lv_at hl 1 rfl) ?_
      refine lv_aload_n hx hb dMH_ball_40 rfl (lv_at hl 2 rfl) ?_
      refine nw_get (C := "LatticeKeysModel$Hands") (TT := T_MH) (N := 31) hx hb hts (wg_ft i_MH) hown hK hO k_h0 (kn := 225) (ci := 12) (fl := [(3, 172), (3, 181), (3, 226), (3, 291), (3, 299), (3, 308), (3, 317), (3, 326), (3, 334), (3, 342), (3, 350), (3, 359), (3, 368), (3, 369), (3, 370), (3, 371), (3, 372), (3, 373), (3, 374), (3, 375), (3, 376), (3, 377), (3, 378), (0, 0), (0, 0), (0, 0), (0, 0), (0, 0), (0, 0), (0, 0), (0, 0)]) rfl hP rfl 0 (by decide) (hts _ (wg_t kw_1432)) (fun _ h9 => h9) (cd := (3, 172)) rfl dMH_ball_41 (fun v37 hv37 => ?_)
      obtain ⟨r35, rfl, kr33⟩ := (show ∃ r : Nat, v37 = .ref r ∧ T r = some 172 from hv37)
      refine mp_i (cx := []) (wr := []) hP hD hS hA [] [] rfl rfl rfl (by decide) (va_runV (As := []) (rest := [.long y21]) F (N_MS_next l g _ T s24 pl hO hU r35 ps21 x28 kr33 hf209 hf210 (by omega) (by omega)) (cwV 0 hts (wg_app (wg_c kw_1728 (wg_c kw_1642 (wg_c kw_1643 (wg_c kw_10 wg_n)))) kw_1644) rfl rfl rfl (by decide +kernel) ⟨by decide, by decide⟩) (pn_W "LatticeKeysModel$Sponge" (en_ok g) (ci := 9) (kn := 172) (fl := [(3, 173), (3, 174), (3, 175), (3, 176), (3, 177), (0, 0), (0, 0), (0, 0)]) hK hO kr33 rfl hP hD hS hA hEn [] rfl rfl rfl) rfl rfl hl.1 rfl (lv_room (Nat.le_of_ble_eq_true rfl)) dMH_ball_44 ⟨by omega, by omega⟩) (fun r36 u26 H locs hu26 hP hD hS => ?_)
      obtain ⟨q23, pl⟩ := u26
      obtain ⟨⟨eq26, rfl, hFc26, ⟨x38, hx_38, hb_38⟩, ⟨x36, hx_36, hb_36⟩, ⟨x37, hx_37, hb_37⟩, -⟩, hO⟩ := hu26
      have hO : okn g T q23.2 pl := hO
      have hP : va_P g.1 vcl ([] ++ pl) _ := hP
      have hD : va_D _ ([] ++ pl) := hD
      have hFc26 : frm (M_MS_next) s24 q23.2 := hFc26
      have hb_36 : x36 ≤ x28 := hb_36
      have hb_37 : x37 = x28 := hb_37
      have hb_38 : x38 < 256 := hb_38
      replace hR := bnd_step hR eq26
      first | rw [bnd_eq, ← eq26] at hE | replace hE := bndP_step hE eq26
      have hF := frm_tr hF hFc26 (fun k hk => by unfold M_MS_next at hk; unfold M_MH_ball_1; omega)
      have hf211 : q23.2.1 225 23 = nI 1 := fc_F hf201 hFc26 (by unfold M_MS_next; omega)
      have hf212 : q23.2.1 225 24 = nI 6 := fc_F hf202 hFc26 (by unfold M_MS_next; omega)
      have hf213 : q23.2.1 225 25 = nI 5 := fc_F hf203 hFc26 (by unfold M_MS_next; omega)
      have hf214 : q23.2.1 225 26 = nI 4 := fc_F hf204 hFc26 (by unfold M_MS_next; omega)
      have hf215 : q23.2.1 225 27 = nI 524288 := fc_F hf205 hFc26 (by unfold M_MS_next; omega)
      have hf216 : q23.2.1 225 28 = nI 261888 := fc_F hf206 hFc26 (by unfold M_MS_next; omega)
      have hf217 : q23.2.1 225 29 = nI 196 := fc_F hf207 hFc26 (by unfold M_MS_next; omega)
      have hf218 : q23.2.1 225 30 = nI 48 := fc_F hf208 hFc26 (by unfold M_MS_next; omega)
      obtain ⟨z27, ez27, hz33, hz34⟩ := cl_of (b := 2147483648) hx_38 (by omega) (by decide)
      replace hR := bnd_step hR ez27
      first | rw [bnd_eq, ← ez27] at hE | replace hE := bndP_step hE ez27
      refine mi_as hz33 ?_
      refine W.widen (k := 0) (n := 0) (by omega) (by omega) ?_
      refine lv_i2l hx hb dMH_ball_47 rfl ?_
      refine lv_bipush (v := nI 8) hx hb dMH_ball_48 (by decide) ?_
      refine lv_iload hx hb dMH_ball_50 (lv_at hl 0 rfl) ?_
      refine mi_imul hx hb dMH_ball_52 ?_
      refine lv_lshl hx hb dMH_ball_53 rfl ?_
      refine lv_lor hx hb dMH_ball_54 ?_
      refine ml_eqv (fun y22 ez28 => ?_)
      replace hR := bnd_step hR ez28
      first | rw [bnd_eq, ← ez28] at hE | replace hE := bndP_step hE ez28
      refine lv_lstore_n (lv' := [(2, .long y22), (4, .int (nI i21)), (0, .ref h0)]) hx hb dMH_ball_55 rfl hl (by decide) rfl (fun ls hl => ?_)
      refine mi_iinc (k := 1) (x := i21) (d := 1) (y := i21 + 1) (lv' := [(4, .int (nI (i21 + 1))), (2, .long y22), (0, .ref h0)]) hx hb dMH_ball_56 hl rfl (by decide) rfl (by decide) rfl (fun ls hl => ?_)
      refine lv_goto (tgt := 32) hx hb dMH_ball_59 (by decide) ?_
      exact ih21 (i21 + 1) y22 q23.2 x36 pl ls H locs (by omega) (by omega) hF hf211 hf212 hf213 hf214 hf215 hf216 hf217 hf218 hx_36 (by have h9 := hx_37; rw [show x37 = x28 by omega] at h9; exact h9) hE hR (lv_sub hl [0, 1, 2] rfl) hO hP hD hS
  exact lp21 8 0 0 s23 x27 pl ls _ _ (by omega) (by omega) hF hf37 hf38 hf39 hf40 hf41 hf42 hf43 hf44 hx_27 hx_28 hE hR (lv_sub hl [0, 1, 2] rfl) hO hP hD hS
def M_MH_ball_2 (k : Nat) : Prop := k = 172 ∨ k = 368 ∨ (0 : Nat) = 1
noncomputable def F_MH_ball_2_L3 (y21 : Int64) (i23 : Nat) (kk : Nat → Sto → Sto) : Nat → Nat → Sto → Sto
  | 0, jj21, s27 => bnd (sI s27 368 i23 (s27.1 368 jj21)) fun s28 => bnd ((s28.1 225 23).toNatClampNeg) fun z24 => if (lg_cmp (((y21.toUInt64 >>> (((nI (i23 + 60)) - (nI 256)).toInt64.toUInt64 &&& Int64.toUInt64 63)).toInt64) &&& 1) 1) = 0 then bnd (sI s28 368 jj21 (-1)) fun s30 => kk (i23 + 1) s30 else bnd (sI s28 368 jj21 (nI 1)) fun s29 => kk (i23 + 1) s29
  | n24 + 1, jj21, s27 => if jj21 ≤ i23 then bnd (sI s27 368 i23 (s27.1 368 jj21)) fun s31 => bnd ((s31.1 225 23).toNatClampNeg) fun z25 => if (lg_cmp (((y21.toUInt64 >>> (((nI (i23 + 60)) - (nI 256)).toInt64.toUInt64 &&& Int64.toUInt64 63)).toInt64) &&& 1) 1) = 0 then bnd (sI s31 368 jj21 (-1)) fun s33 => kk (i23 + 1) s33 else bnd (sI s31 368 jj21 (nI 1)) fun s32 => kk (i23 + 1) s32 else bnd (F_MS_next  s27) fun q22 => bnd (q22.1.toNatClampNeg) fun z26 => F_MH_ball_2_L3 y21 i23 kk n24 z26 q22.2
noncomputable def E_MH_ball_2_L3 (y21 : Int64) (i23 : Nat) (ke : Nat → Sto → Prop) : Nat → Nat → Sto → Prop
  | 0, jj21, s27 => (jj21 ≤ i23) ∧ (bnd (sI s27 368 i23 (s27.1 368 jj21)) fun s28 => bnd ((s28.1 225 23).toNatClampNeg) fun z24 => if (lg_cmp (((y21.toUInt64 >>> (((nI (i23 + 60)) - (nI 256)).toInt64.toUInt64 &&& Int64.toUInt64 63)).toInt64) &&& 1) 1) = 0 then bnd (sI s28 368 jj21 (-1)) fun s30 => ke (i23 + 1) s30 else bnd (sI s28 368 jj21 (nI 1)) fun s29 => ke (i23 + 1) s29)
  | n24 + 1, jj21, s27 => if jj21 ≤ i23 then bnd (sI s27 368 i23 (s27.1 368 jj21)) fun s31 => bnd ((s31.1 225 23).toNatClampNeg) fun z25 => if (lg_cmp (((y21.toUInt64 >>> (((nI (i23 + 60)) - (nI 256)).toInt64.toUInt64 &&& Int64.toUInt64 63)).toInt64) &&& 1) 1) = 0 then bnd (sI s31 368 jj21 (-1)) fun s33 => ke (i23 + 1) s33 else bnd (sI s31 368 jj21 (nI 1)) fun s32 => ke (i23 + 1) s32 else bnd (F_MS_next  s27) fun q22 => bnd (q22.1.toNatClampNeg) fun z26 => E_MH_ball_2_L3 y21 i23 ke n24 z26 q22.2
noncomputable def F_MH_ball_2_L2 (y21 : Int64) : Nat → Nat → Sto → Sto
  | 0, i23, s26 => s26
  | n23 + 1, i23, s26 => bnd (F_MS_next  s26) fun q21 => bnd (q21.1.toNatClampNeg) fun z23 => F_MH_ball_2_L3 y21 i23 (F_MH_ball_2_L2 y21 n23) fuelM z23 q21.2
noncomputable def E_MH_ball_2_L2 (y21 : Int64) : Nat → Nat → Sto → Prop
  | 0, i23, s26 => True
  | n23 + 1, i23, s26 => bnd (F_MS_next  s26) fun q21 => bnd (q21.1.toNatClampNeg) fun z23 => E_MH_ball_2_L3 y21 i23 (E_MH_ball_2_L2 y21 n23) fuelM z23 q21.2
noncomputable def F_MH_ball_2_L1 (y21 : Int64) : Nat → Nat → Sto → Sto
  | 0, i22, s25 => bnd ((s25.1 225 23).toNatClampNeg) fun z22 => F_MH_ball_2_L2 y21 (256 - 196) 196 s25
  | n22 + 1, i22, s25 => bnd (sI s25 368 i22 (nI 0)) fun s34 => F_MH_ball_2_L1 y21 n22 (i22 + 1) s34
noncomputable def E_MH_ball_2_L1 (y21 : Int64) : Nat → Nat → Sto → Prop
  | 0, i22, s25 => bnd ((s25.1 225 23).toNatClampNeg) fun z22 => E_MH_ball_2_L2 y21 (256 - 196) 196 s25
  | n22 + 1, i22, s25 => bnd (sI s25 368 i22 (nI 0)) fun s34 => E_MH_ball_2_L1 y21 n22 (i22 + 1) s34
noncomputable def F_MH_ball_2_L0 : Nat → Nat → Int64 → Sto → Sto
  | 0, i21, y21, s24 => F_MH_ball_2_L1 y21 256 0 s24
  | n21 + 1, i21, y21, s24 => bnd (F_MS_next  s24) fun q23 => bnd (q23.1.toNatClampNeg) fun z27 => bnd ((y21 ||| (((nI z27).toInt64) <<< ((nI (8 * i21)).toInt64 &&& 63)))) fun y22 => F_MH_ball_2_L0  n21 (i21 + 1) y22 q23.2
noncomputable def E_MH_ball_2_L0 : Nat → Nat → Int64 → Sto → Prop
  | 0, i21, y21, s24 => E_MH_ball_2_L1 y21 256 0 s24
  | n21 + 1, i21, y21, s24 => bnd (F_MS_next  s24) fun q23 => bnd (q23.1.toNatClampNeg) fun z27 => bnd ((y21 ||| (((nI z27).toInt64) <<< ((nI (8 * i21)).toInt64 &&& 63)))) fun y22 => E_MH_ball_2_L0  n21 (i21 + 1) y22 q23.2
noncomputable def F_MH_ball_2 (pb : Nat) (s : Sto) : Sto := bnd (F_MS_shake  s) fun s21 => bnd ((s21.1 225 30).toNatClampNeg) fun z21 => bnd (F_MS_puts pb 64 0 64 s21) fun s22 => bnd (F_MS_end  s22) fun s23 => F_MH_ball_2_L0 8 0 0 s23
noncomputable def E_MH_ball_2 (pb : Nat) (s : Sto) : Prop := bnd (F_MS_shake  s) fun s21 => bnd ((s21.1 225 30).toNatClampNeg) fun z21 => bnd (F_MS_puts pb 64 0 64 s21) fun s22 => bnd (F_MS_end  s22) fun s23 => E_MH_ball_2_L0 8 0 0 s23
set_option maxHeartbeats 8000000 in
set_option maxRecDepth 100000 in
theorem N_MH_ball_2 (l : Launch) (g : Gd) (sz : Nat) (T : TyN) (s : Sto) (pl : va_W) (hO : okn g T s pl) (hU : inj T) (h0 b : Nat) (pb : Nat) (k_h0 : T h0 = some 225) (k_b : T b = some pb) (n_b : nsp pb = (1, 64, [])) (e_c0 : s.1 225 23 = nI 2) (e_c1 : s.1 225 24 = nI 8) (e_c2 : s.1 225 25 = nI 7) (e_c3 : s.1 225 26 = nI 2) (e_c4 : s.1 225 27 = nI 524288) (e_c5 : s.1 225 28 = nI 261888) (e_c6 : s.1 225 29 = nI 120) (e_c7 : s.1 225 30 = nI 64) (hE : E_MH_ball_2 pb s)  : Met l y_MH_ball w_MH_ball ({ frames := 4, cells := 0, slots := 0, locals := 90 } : Room) (va_Pc [.ref h0, .ref b] (pr (en g) g.1 vcl sz ([] ++ pl))) (va_Qv (fun (u : (Sto) × va_W) => (u.1 = F_MH_ball_2 pb s ∧ frm (M_MH_ball_2) s u.1 ∧ True) ∧ okn g T u.1 u.2) (po g.1 vcl (va_A ([] ++ pl) sz) (fun (u : (Sto) × va_W) => [] ++ u.2)) (va_A ([] ++ pl) sz)) 0 0 (va_A ([] ++ pl) sz) := by
  refine mc_entry (cc := c_MH_ball) (maxL := 6) (ret := none) (by decide) rfl (Nat.le_of_ble_eq_true rfl) ?_
  intro p e s0 m args below meth c ls F hr hlk hnm hsz hP hD hEn hA hl
  obtain ⟨hx, hb, hml, hown, hts⟩ := id F
  have hK := hEn.1
  generalize va_A ([] ++ pl) sz = A at hD hEn hA ⊢
  have hS : va_S A s0.heap s0.heap [] := va_S.rf
  have hl : lv_has ls 6 [(0, .ref h0), (1, .ref b)] := hl
  have hR : F_MH_ball_2 pb s = F_MH_ball_2 pb s := rfl
  have hF : frm (M_MH_ball_2) s s := frm_rf
  have ne_172_pb : 172 ≠ pb := nsp_ne (p := 172) rfl n_b (show (5 : Nat) ≠ 1 by decide)
  have ne_225_pb : 225 ≠ pb := nsp_ne (p := 225) rfl n_b (show (5 : Nat) ≠ 1 by decide)
  refine lv_aload_n hx hb dMH_ball_0 rfl (lv_at hl 0 rfl) ?_
  refine nw_get (C := "LatticeKeysModel$Hands") (TT := T_MH) (N := 31) hx hb hts (wg_ft i_MH) hown hK hO k_h0 (kn := 225) (ci := 12) (fl := [(3, 172), (3, 181), (3, 226), (3, 291), (3, 299), (3, 308), (3, 317), (3, 326), (3, 334), (3, 342), (3, 350), (3, 359), (3, 368), (3, 369), (3, 370), (3, 371), (3, 372), (3, 373), (3, 374), (3, 375), (3, 376), (3, 377), (3, 378), (0, 0), (0, 0), (0, 0), (0, 0), (0, 0), (0, 0), (0, 0), (0, 0)]) rfl hP rfl 0 (by decide) (hts _ (wg_t kw_1432)) (fun _ h9 => h9) (cd := (3, 172)) rfl dMH_ball_1 (fun v21 hv21 => ?_)
  obtain ⟨r21, rfl, kr21⟩ := (show ∃ r : Nat, v21 = .ref r ∧ T r = some 172 from hv21)
  refine mp_v (cx := []) (wr := []) hP hD hS hA [] [] rfl rfl rfl (by decide) (va_runV (As := []) (rest := []) F (N_MS_shake l g _ T s pl hO hU r21 kr21) (cwV 0 hts (wg_app (wg_c kw_1718 (wg_c kw_1661 (wg_c kw_1662 (wg_c kw_10 wg_n)))) kw_1663) rfl rfl rfl (by decide +kernel) ⟨by decide, by decide⟩) (pn_W "LatticeKeysModel$Sponge" (en_ok g) (ci := 9) (kn := 172) (fl := [(3, 173), (3, 174), (3, 175), (3, 176), (3, 177), (0, 0), (0, 0), (0, 0)]) hK hO kr21 rfl hP hD hS hA hEn [] rfl rfl rfl) rfl rfl hl.1 rfl (lv_room (Nat.le_of_ble_eq_true rfl)) dMH_ball_4 ⟨by omega, by omega⟩) (fun  u21 H locs hu21 hP hD hS => ?_)
  obtain ⟨s21, pl⟩ := u21
  obtain ⟨⟨eq21, hFc21, ⟨x21, hx_21, hb_21⟩, ⟨x22, hx_22, hb_22⟩, -⟩, hO⟩ := hu21
  have hO : okn g T s21 pl := hO
  have hP : va_P g.1 vcl ([] ++ pl) _ := hP
  have hD : va_D _ ([] ++ pl) := hD
  have hFc21 : frm (M_MS_shake) s s21 := hFc21
  have hb_21 : x21 = 0 := hb_21
  have hb_22 : x22 = 136 := hb_22
  replace hR := bnd_step hR eq21
  first | rw [bnd_eq, ← eq21] at hE | replace hE := bndP_step hE eq21
  have hF := frm_tr hF hFc21 (fun k hk => by unfold M_MS_shake at hk; unfold M_MH_ball_2; omega)
  have hf21 : s21.1 225 23 = nI 2 := fc_F e_c0 hFc21 (by unfold M_MS_shake; omega)
  have hf22 : s21.1 225 24 = nI 8 := fc_F e_c1 hFc21 (by unfold M_MS_shake; omega)
  have hf23 : s21.1 225 25 = nI 7 := fc_F e_c2 hFc21 (by unfold M_MS_shake; omega)
  have hf24 : s21.1 225 26 = nI 2 := fc_F e_c3 hFc21 (by unfold M_MS_shake; omega)
  have hf25 : s21.1 225 27 = nI 524288 := fc_F e_c4 hFc21 (by unfold M_MS_shake; omega)
  have hf26 : s21.1 225 28 = nI 261888 := fc_F e_c5 hFc21 (by unfold M_MS_shake; omega)
  have hf27 : s21.1 225 29 = nI 120 := fc_F e_c6 hFc21 (by unfold M_MS_shake; omega)
  have hf28 : s21.1 225 30 = nI 64 := fc_F e_c7 hFc21 (by unfold M_MS_shake; omega)
  refine W.widen (k := 0) (n := 0) (by omega) (by omega) ?_
  refine lv_aload_n hx hb dMH_ball_7 rfl (lv_at hl 0 rfl) ?_
  refine nw_get (C := "LatticeKeysModel$Hands") (TT := T_MH) (N := 31) hx hb hts (wg_ft i_MH) hown hK hO k_h0 (kn := 225) (ci := 12) (fl := [(3, 172), (3, 181), (3, 226), (3, 291), (3, 299), (3, 308), (3, 317), (3, 326), (3, 334), (3, 342), (3, 350), (3, 359), (3, 368), (3, 369), (3, 370), (3, 371), (3, 372), (3, 373), (3, 374), (3, 375), (3, 376), (3, 377), (3, 378), (0, 0), (0, 0), (0, 0), (0, 0), (0, 0), (0, 0), (0, 0), (0, 0)]) rfl hP rfl 0 (by decide) (hts _ (wg_t kw_1432)) (fun _ h9 => h9) (cd := (3, 172)) rfl dMH_ball_8 (fun v22 hv22 => ?_)
  obtain ⟨r22, rfl, kr22⟩ := (show ∃ r : Nat, v22 = .ref r ∧ T r = some 172 from hv22)
  refine lv_aload_n hx hb dMH_ball_11 rfl (lv_at hl 1 rfl) ?_
  refine lv_iconst (v := nI 0) hx hb dMH_ball_12 (by decide) ?_
  refine lv_aload_n hx hb dMH_ball_13 rfl (lv_at hl 0 rfl) ?_
  refine nw_get (C := "LatticeKeysModel$Hands") (TT := T_MH) (N := 31) hx hb hts (wg_ft i_MH) hown hK hO k_h0 (kn := 225) (ci := 12) (fl := [(3, 172), (3, 181), (3, 226), (3, 291), (3, 299), (3, 308), (3, 317), (3, 326), (3, 334), (3, 342), (3, 350), (3, 359), (3, 368), (3, 369), (3, 370), (3, 371), (3, 372), (3, 373), (3, 374), (3, 375), (3, 376), (3, 377), (3, 378), (0, 0), (0, 0), (0, 0), (0, 0), (0, 0), (0, 0), (0, 0), (0, 0)]) rfl hP rfl 30 (by decide) (hts _ (wg_t kw_1462)) (fun _ h9 => h9) (cd := (0, 0)) rfl dMH_ball_14 (fun v23 hv23 => ?_)
  obtain rfl := (show v23 = .int (s21.1 225 30) from hv23)
  obtain ⟨z21, ez21, hz21, hz22⟩ := cl_of (b := 2147483648) hf28 (by omega) (by decide)
  replace hR := bnd_step hR ez21
  first | rw [bnd_eq, ← ez21] at hE | replace hE := bndP_step hE ez21
  refine mi_as hz21 ?_
  subst hz22
  refine mp_v (cx := []) (wr := []) hP hD hS hA [] [] rfl rfl rfl (by decide) (va_runV (As := [.ref b, .int (nI 0), .int (nI 64)]) (rest := []) F (N_MS_puts l g _ T s21 pl hO hU r22 b pb 64 0 64 x21 x22 kr22 k_b n_b hx_21 hx_22 (by omega) (by omega) (by omega) (by omega)) (cwV 3 hts (wg_app (wg_c kw_1719 (wg_c kw_1612 (wg_c kw_1613 (wg_c kw_10 wg_n)))) kw_1614) rfl rfl rfl (by decide +kernel) ⟨by decide, by decide⟩) (pn_W "LatticeKeysModel$Sponge" (en_ok g) (ci := 9) (kn := 172) (fl := [(3, 173), (3, 174), (3, 175), (3, 176), (3, 177), (0, 0), (0, 0), (0, 0)]) hK hO kr22 rfl hP hD hS hA hEn [] rfl rfl rfl) rfl rfl hl.1 rfl (lv_room (Nat.le_of_ble_eq_true rfl)) dMH_ball_17 ⟨by omega, by omega⟩) (fun  u22 H locs hu22 hP hD hS => ?_)
  obtain ⟨s22, pl⟩ := u22
  obtain ⟨⟨eq22, hFc22, ⟨x24, hx_24, hb_24⟩, ⟨x25, hx_25, hb_25⟩, -⟩, hO⟩ := hu22
  have hO : okn g T s22 pl := hO
  have hP : va_P g.1 vcl ([] ++ pl) _ := hP
  have hD : va_D _ ([] ++ pl) := hD
  have hFc22 : frm (M_MS_puts) s21 s22 := hFc22
  have hb_24 : x24 < x22 := hb_24
  have hb_25 : x25 = x22 := hb_25
  replace hR := bnd_step hR eq22
  first | rw [bnd_eq, ← eq22] at hE | replace hE := bndP_step hE eq22
  have hF := frm_tr hF hFc22 (fun k hk => by unfold M_MS_puts at hk; unfold M_MH_ball_2; omega)
  have hf29 : s22.1 225 23 = nI 2 := fc_F hf21 hFc22 (by unfold M_MS_puts; omega)
  have hf30 : s22.1 225 24 = nI 8 := fc_F hf22 hFc22 (by unfold M_MS_puts; omega)
  have hf31 : s22.1 225 25 = nI 7 := fc_F hf23 hFc22 (by unfold M_MS_puts; omega)
  have hf32 : s22.1 225 26 = nI 2 := fc_F hf24 hFc22 (by unfold M_MS_puts; omega)
  have hf33 : s22.1 225 27 = nI 524288 := fc_F hf25 hFc22 (by unfold M_MS_puts; omega)
  have hf34 : s22.1 225 28 = nI 261888 := fc_F hf26 hFc22 (by unfold M_MS_puts; omega)
  have hf35 : s22.1 225 29 = nI 120 := fc_F hf27 hFc22 (by unfold M_MS_puts; omega)
  have hf36 : s22.1 225 30 = nI 64 := fc_F hf28 hFc22 (by unfold M_MS_puts; omega)
  refine W.widen (k := 0) (n := 0) (by omega) (by omega) ?_
  refine lv_aload_n hx hb dMH_ball_20 rfl (lv_at hl 0 rfl) ?_
  refine nw_get (C := "LatticeKeysModel$Hands") (TT := T_MH) (N := 31) hx hb hts (wg_ft i_MH) hown hK hO k_h0 (kn := 225) (ci := 12) (fl := [(3, 172), (3, 181), (3, 226), (3, 291), (3, 299), (3, 308), (3, 317), (3, 326), (3, 334), (3, 342), (3, 350), (3, 359), (3, 368), (3, 369), (3, 370), (3, 371), (3, 372), (3, 373), (3, 374), (3, 375), (3, 376), (3, 377), (3, 378), (0, 0), (0, 0), (0, 0), (0, 0), (0, 0), (0, 0), (0, 0), (0, 0)]) rfl hP rfl 0 (by decide) (hts _ (wg_t kw_1432)) (fun _ h9 => h9) (cd := (3, 172)) rfl dMH_ball_21 (fun v24 hv24 => ?_)
  obtain ⟨r23, rfl, kr23⟩ := (show ∃ r : Nat, v24 = .ref r ∧ T r = some 172 from hv24)
  refine mp_v (cx := []) (wr := []) hP hD hS hA [] [] rfl rfl rfl (by decide) (va_runV (As := []) (rest := []) F (N_MS_end l g _ T s22 pl hO hU r23 x24 x25 kr23 hx_24 hx_25 (by omega) (by omega)) (cwV 0 hts (wg_app (wg_c kw_1721 (wg_c kw_1634 (wg_c kw_1635 (wg_c kw_10 wg_n)))) kw_1636) rfl rfl rfl (by decide +kernel) ⟨by decide, by decide⟩) (pn_W "LatticeKeysModel$Sponge" (en_ok g) (ci := 9) (kn := 172) (fl := [(3, 173), (3, 174), (3, 175), (3, 176), (3, 177), (0, 0), (0, 0), (0, 0)]) hK hO kr23 rfl hP hD hS hA hEn [] rfl rfl rfl) rfl rfl hl.1 rfl (lv_room (Nat.le_of_ble_eq_true rfl)) dMH_ball_24 ⟨by omega, by omega⟩) (fun  u23 H locs hu23 hP hD hS => ?_)
  obtain ⟨s23, pl⟩ := u23
  obtain ⟨⟨eq23, hFc23, ⟨x27, hx_27, hb_27⟩, ⟨x28, hx_28, hb_28⟩, -⟩, hO⟩ := hu23
  have hO : okn g T s23 pl := hO
  have hP : va_P g.1 vcl ([] ++ pl) _ := hP
  have hD : va_D _ ([] ++ pl) := hD
  have hFc23 : frm (M_MS_end) s22 s23 := hFc23
  have hb_27 : x27 = 0 := hb_27
  have hb_28 : x28 = x25 := hb_28
  replace hR := bnd_step hR eq23
  first | rw [bnd_eq, ← eq23] at hE | replace hE := bndP_step hE eq23
  have hF := frm_tr hF hFc23 (fun k hk => by unfold M_MS_end at hk; unfold M_MH_ball_2; omega)
  have hf37 : s23.1 225 23 = nI 2 := fc_F hf29 hFc23 (by unfold M_MS_end; omega)
  have hf38 : s23.1 225 24 = nI 8 := fc_F hf30 hFc23 (by unfold M_MS_end; omega)
  have hf39 : s23.1 225 25 = nI 7 := fc_F hf31 hFc23 (by unfold M_MS_end; omega)
  have hf40 : s23.1 225 26 = nI 2 := fc_F hf32 hFc23 (by unfold M_MS_end; omega)
  have hf41 : s23.1 225 27 = nI 524288 := fc_F hf33 hFc23 (by unfold M_MS_end; omega)
  have hf42 : s23.1 225 28 = nI 261888 := fc_F hf34 hFc23 (by unfold M_MS_end; omega)
  have hf43 : s23.1 225 29 = nI 120 := fc_F hf35 hFc23 (by unfold M_MS_end; omega)
  have hf44 : s23.1 225 30 = nI 64 := fc_F hf36 hFc23 (by unfold M_MS_end; omega)
  refine W.widen (k := 0) (n := 0) (by omega) (by omega) ?_
  refine lv_lconst (v := 0) hx hb dMH_ball_27 (by decide) ?_
  refine lv_lstore_n (lv' := [(2, .long 0), (0, .ref h0), (1, .ref b)]) hx hb dMH_ball_28 rfl hl (by decide) rfl (fun ls hl => ?_)
  refine lv_iconst (v := nI 0) hx hb dMH_ball_29 (by decide) ?_
  refine lv_istore (lv' := [(4, .int (nI 0)), (2, .long 0), (0, .ref h0), (1, .ref b)]) hx hb dMH_ball_30 hl (by decide) rfl (fun ls hl => ?_)
  have lp21 : ∀ (n21 : Nat) (i21 : Nat) (y21 : Int64) (s24 : Sto) (ps21 : Nat) (pl : va_W) (ls : Array Slot) (H : Heap) (locs : List Loc), n21 + i21 = 8 → (ps21 ≤ 136) → frm (M_MH_ball_2) s s24 → s24.1 225 23 = nI 2 → s24.1 225 24 = nI 8 → s24.1 225 25 = nI 7 → s24.1 225 26 = nI 2 → s24.1 225 27 = nI 524288 → s24.1 225 28 = nI 261888 → s24.1 225 29 = nI 120 → s24.1 225 30 = nI 64 → s24.1 172 6 = nI ps21 → s24.1 172 5 = nI x28 → E_MH_ball_2_L0 n21 i21 y21 s24 → F_MH_ball_2 pb s = F_MH_ball_2_L0 n21 i21 y21 s24 → lv_has ls 6 [(4, .int (nI i21)), (2, .long y21), (0, .ref h0)] → okn g T s24 pl → va_P g.1 vcl ([] ++ pl) H → va_D A ([] ++ pl) → va_S A s0.heap H locs → W p l e ({ frames := 4, cells := 0, slots := 0, locals := 90 } : Room) s0 m args below meth c H locs 0 0 (MQ below (va_Qv (fun (u : (Sto) × va_W) => (u.1 = F_MH_ball_2 pb s ∧ frm (M_MH_ball_2) s u.1 ∧ True) ∧ okn g T u.1 u.2) (po g.1 vcl A (fun (u : (Sto) × va_W) => [] ++ u.2)) A) args s0 0 0 A) (F0 m 32 ls []) := by
    intro n21
    induction n21 with
    | zero =>
      intro i21 y21 s24 ps21 pl ls H locs hm21 hi21 hF hf45 hf46 hf47 hf48 hf49 hf50 hf51 hf52 hf53 hf54 hE hR hl hO hP hD hS
      refine lv_iload hx hb dMH_ball_32 (lv_at hl 0 rfl) ?_
      refine lv_bipush (v := nI 8) hx hb dMH_ball_34 (by decide) ?_
      refine mi_ge (tgt := 62) hx hb dMH_ball_36 (by decide) (by omega) (by omega) (fun h21 => ?_) (fun h21 => absurd h21 (by omega))
      refine lv_iconst (v := nI 0) hx hb dMH_ball_62 (by decide) ?_
      refine lv_istore (lv' := [(4, .int (nI 0)), (2, .long y21), (0, .ref h0)]) hx hb dMH_ball_63 hl (by decide) rfl (fun ls hl => ?_)
      have lp22 : ∀ (n22 : Nat) (i22 : Nat) (s25 : Sto) (ps22 : Nat) (pl : va_W) (ls : Array Slot) (H : Heap) (locs : List Loc), n22 + i22 = 256 → (ps22 ≤ 136) → frm (M_MH_ball_2) s s25 → s25.1 225 23 = nI 2 → s25.1 225 24 = nI 8 → s25.1 225 25 = nI 7 → s25.1 225 26 = nI 2 → s25.1 225 27 = nI 524288 → s25.1 225 28 = nI 261888 → s25.1 225 29 = nI 120 → s25.1 225 30 = nI 64 → s25.1 172 6 = nI ps22 → s25.1 172 5 = nI x28 → E_MH_ball_2_L1 y21 n22 i22 s25 → F_MH_ball_2 pb s = F_MH_ball_2_L1 y21 n22 i22 s25 → lv_has ls 6 [(4, .int (nI i22)), (2, .long y21), (0, .ref h0)] → okn g T s25 pl → va_P g.1 vcl ([] ++ pl) H → va_D A ([] ++ pl) → va_S A s0.heap H locs → W p l e ({ frames := 4, cells := 0, slots := 0, locals := 90 } : Room) s0 m args below meth c H locs 0 0 (MQ below (va_Qv (fun (u : (Sto) × va_W) => (u.1 = F_MH_ball_2 pb s ∧ frm (M_MH_ball_2) s u.1 ∧ True) ∧ okn g T u.1 u.2) (po g.1 vcl A (fun (u : (Sto) × va_W) => [] ++ u.2)) A) args s0 0 0 A) (F0 m 65 ls []) := by
        intro n22
        induction n22 with
        | zero =>
          intro i22 s25 ps22 pl ls H locs hm22 hi22 hF hf55 hf56 hf57 hf58 hf59 hf60 hf61 hf62 hf63 hf64 hE hR hl hO hP hD hS
          refine lv_iload hx hb dMH_ball_65 (lv_at hl 0 rfl) ?_
          refine lv_sipush (v := nI 256) hx hb dMH_ball_67 (by decide) ?_
          refine mi_ge (tgt := 87) hx hb dMH_ball_70 (by decide) (by omega) (by omega) (fun h22 => ?_) (fun h22 => absurd h22 (by omega))
          refine lv_sipush (v := nI 256) hx hb dMH_ball_87 (by decide) ?_
          refine va_gets hx hb (hEn.2.1 26 _ rfl).1 hS hown (hts _ (wg_t kw_1716)) (fun _ h9 => h9) dMH_ball_90 ?_
          refine lv_aload_n hx hb dMH_ball_93 rfl (lv_at hl 2 rfl) ?_
          refine nw_get (C := "LatticeKeysModel$Hands") (TT := T_MH) (N := 31) hx hb hts (wg_ft i_MH) hown hK hO k_h0 (kn := 225) (ci := 12) (fl := [(3, 172), (3, 181), (3, 226), (3, 291), (3, 299), (3, 308), (3, 317), (3, 326), (3, 334), (3, 342), (3, 350), (3, 359), (3, 368), (3, 369), (3, 370), (3, 371), (3, 372), (3, 373), (3, 374), (3, 375), (3, 376), (3, 377), (3, 378), (0, 0), (0, 0), (0, 0), (0, 0), (0, 0), (0, 0), (0, 0), (0, 0)]) rfl hP rfl 23 (by decide) (hts _ (wg_t kw_1455)) (fun _ h9 => h9) (cd := (0, 0)) rfl dMH_ball_94 (fun v25 hv25 => ?_)
          obtain rfl := (show v25 = .int (s25.1 225 23) from hv25)
          obtain ⟨z22, ez22, hz23, hz24⟩ := cl_of (b := 2147483648) hf55 (by omega) (by decide)
          replace hR := bnd_step hR ez22
          first | rw [bnd_eq, ← ez22] at hE | replace hE := bndP_step hE ez22
          refine mi_as hz23 ?_
          subst hz24
          refine va_ti (v := .int (nI 60)) hx hb (hEn.2.1 26 _ rfl).2 hS (vp_in_nI (by decide) (by decide)) (by decide +kernel) dMH_ball_97 ?_
          refine mi_isub hx hb dMH_ball_98 (by omega) ?_
          refine mi_as (show nI (256 - 60) = nI 196 from rfl) ?_
          refine lv_istore (lv' := [(4, .int (nI 196)), (2, .long y21), (0, .ref h0)]) hx hb dMH_ball_99 hl (by decide) rfl (fun ls hl => ?_)
          have lp23 : ∀ (n23 : Nat) (i23 : Nat) (s26 : Sto) (ps23 : Nat) (pl : va_W) (ls : Array Slot) (H : Heap) (locs : List Loc), n23 + i23 = 256 → (ps23 ≤ 136) → (196 ≤ i23) → frm (M_MH_ball_2) s s26 → s26.1 225 23 = nI 2 → s26.1 225 24 = nI 8 → s26.1 225 25 = nI 7 → s26.1 225 26 = nI 2 → s26.1 225 27 = nI 524288 → s26.1 225 28 = nI 261888 → s26.1 225 29 = nI 120 → s26.1 225 30 = nI 64 → s26.1 172 6 = nI ps23 → s26.1 172 5 = nI x28 → E_MH_ball_2_L2 y21 n23 i23 s26 → F_MH_ball_2 pb s = F_MH_ball_2_L2 y21 n23 i23 s26 → lv_has ls 6 [(4, .int (nI i23)), (2, .long y21), (0, .ref h0)] → okn g T s26 pl → va_P g.1 vcl ([] ++ pl) H → va_D A ([] ++ pl) → va_S A s0.heap H locs → W p l e ({ frames := 4, cells := 0, slots := 0, locals := 90 } : Room) s0 m args below meth c H locs 0 0 (MQ below (va_Qv (fun (u : (Sto) × va_W) => (u.1 = F_MH_ball_2 pb s ∧ frm (M_MH_ball_2) s u.1 ∧ True) ∧ okn g T u.1 u.2) (po g.1 vcl A (fun (u : (Sto) × va_W) => [] ++ u.2)) A) args s0 0 0 A) (F0 m 101 ls []) := by
            intro n23
            induction n23 with
            | zero =>
              intro i23 s26 ps23 pl ls H locs hm23 hi23 hi24 hF hf65 hf66 hf67 hf68 hf69 hf70 hf71 hf72 hf73 hf74 hE hR hl hO hP hD hS
              refine lv_iload hx hb dMH_ball_101 (lv_at hl 0 rfl) ?_
              refine lv_sipush (v := nI 256) hx hb dMH_ball_103 (by decide) ?_
              refine mi_ge (tgt := 193) hx hb dMH_ball_106 (by decide) (by omega) (by omega) (fun h23 => ?_) (fun h23 => absurd h23 (by omega))
              exact mp_vret hx hb hr hlk hP hD hS (s26, pl) ⟨⟨hR.symm, hF, trivial⟩, hO⟩ [] rfl rfl rfl (by omega) (by omega) dMH_ball_193
            | succ n23 ih23 =>
              intro i23 s26 ps23 pl ls H locs hm23 hi23 hi24 hF hf75 hf76 hf77 hf78 hf79 hf80 hf81 hf82 hf83 hf84 hE hR hl hO hP hD hS
              refine lv_iload hx hb dMH_ball_101 (lv_at hl 0 rfl) ?_
              refine lv_sipush (v := nI 256) hx hb dMH_ball_103 (by decide) ?_
              refine mi_ge (tgt := 193) hx hb dMH_ball_106 (by decide) (by omega) (by omega) (fun h24 => absurd h24 (by omega)) (fun h24 => ?_)
              refine lv_aload_n hx hb dMH_ball_109 rfl (lv_at hl 2 rfl) ?_
              refine nw_get (C := "LatticeKeysModel$Hands") (TT := T_MH) (N := 31) hx hb hts (wg_ft i_MH) hown hK hO k_h0 (kn := 225) (ci := 12) (fl := [(3, 172), (3, 181), (3, 226), (3, 291), (3, 299), (3, 308), (3, 317), (3, 326), (3, 334), (3, 342), (3, 350), (3, 359), (3, 368), (3, 369), (3, 370), (3, 371), (3, 372), (3, 373), (3, 374), (3, 375), (3, 376), (3, 377), (3, 378), (0, 0), (0, 0), (0, 0), (0, 0), (0, 0), (0, 0), (0, 0), (0, 0)]) rfl hP rfl 0 (by decide) (hts _ (wg_t kw_1432)) (fun _ h9 => h9) (cd := (3, 172)) rfl dMH_ball_110 (fun v26 hv26 => ?_)
              obtain ⟨r24, rfl, kr24⟩ := (show ∃ r : Nat, v26 = .ref r ∧ T r = some 172 from hv26)
              refine mp_i (cx := []) (wr := []) hP hD hS hA [] [] rfl rfl rfl (by decide) (va_runV (As := []) (rest := []) F (N_MS_next l g _ T s26 pl hO hU r24 ps23 x28 kr24 hf83 hf84 (by omega) (by omega)) (cwV 0 hts (wg_app (wg_c kw_1728 (wg_c kw_1642 (wg_c kw_1643 (wg_c kw_10 wg_n)))) kw_1644) rfl rfl rfl (by decide +kernel) ⟨by decide, by decide⟩) (pn_W "LatticeKeysModel$Sponge" (en_ok g) (ci := 9) (kn := 172) (fl := [(3, 173), (3, 174), (3, 175), (3, 176), (3, 177), (0, 0), (0, 0), (0, 0)]) hK hO kr24 rfl hP hD hS hA hEn [] rfl rfl rfl) rfl rfl hl.1 rfl (lv_room (Nat.le_of_ble_eq_true rfl)) dMH_ball_113 ⟨by omega, by omega⟩) (fun r25 u24 H locs hu24 hP hD hS => ?_)
              obtain ⟨q21, pl⟩ := u24
              obtain ⟨⟨eq24, rfl, hFc24, ⟨x32, hx_32, hb_32⟩, ⟨x30, hx_30, hb_30⟩, ⟨x31, hx_31, hb_31⟩, -⟩, hO⟩ := hu24
              have hO : okn g T q21.2 pl := hO
              have hP : va_P g.1 vcl ([] ++ pl) _ := hP
              have hD : va_D _ ([] ++ pl) := hD
              have hFc24 : frm (M_MS_next) s26 q21.2 := hFc24
              have hb_30 : x30 ≤ x28 := hb_30
              have hb_31 : x31 = x28 := hb_31
              have hb_32 : x32 < 256 := hb_32
              replace hR := bnd_step hR eq24
              first | rw [bnd_eq, ← eq24] at hE | replace hE := bndP_step hE eq24
              have hF := frm_tr hF hFc24 (fun k hk => by unfold M_MS_next at hk; unfold M_MH_ball_2; omega)
              have hf85 : q21.2.1 225 23 = nI 2 := fc_F hf75 hFc24 (by unfold M_MS_next; omega)
              have hf86 : q21.2.1 225 24 = nI 8 := fc_F hf76 hFc24 (by unfold M_MS_next; omega)
              have hf87 : q21.2.1 225 25 = nI 7 := fc_F hf77 hFc24 (by unfold M_MS_next; omega)
              have hf88 : q21.2.1 225 26 = nI 2 := fc_F hf78 hFc24 (by unfold M_MS_next; omega)
              have hf89 : q21.2.1 225 27 = nI 524288 := fc_F hf79 hFc24 (by unfold M_MS_next; omega)
              have hf90 : q21.2.1 225 28 = nI 261888 := fc_F hf80 hFc24 (by unfold M_MS_next; omega)
              have hf91 : q21.2.1 225 29 = nI 120 := fc_F hf81 hFc24 (by unfold M_MS_next; omega)
              have hf92 : q21.2.1 225 30 = nI 64 := fc_F hf82 hFc24 (by unfold M_MS_next; omega)
              obtain ⟨z23, ez23, hz25, hz26⟩ := cl_of (b := 2147483648) hx_32 (by omega) (by decide)
              replace hR := bnd_step hR ez23
              first | rw [bnd_eq, ← ez23] at hE | replace hE := bndP_step hE ez23
              refine mi_as hz25 ?_
              refine W.widen (k := 0) (n := 0) (by omega) (by omega) ?_
              refine lv_istore (lv' := [(5, .int (nI z23)), (4, .int (nI i23)), (2, .long y21), (0, .ref h0)]) hx hb dMH_ball_116 hl (by decide) rfl (fun ls hl => ?_)
              have lp24 : ∀ (n24 : Nat) (jj21 : Nat) (s27 : Sto) (ps24 : Nat) (pl : va_W) (ls : Array Slot) (H : Heap) (locs : List Loc), 0 = 0 → (jj21 < 256) → (ps24 ≤ 136) → frm (M_MH_ball_2) s s27 → s27.1 225 23 = nI 2 → s27.1 225 24 = nI 8 → s27.1 225 25 = nI 7 → s27.1 225 26 = nI 2 → s27.1 225 27 = nI 524288 → s27.1 225 28 = nI 261888 → s27.1 225 29 = nI 120 → s27.1 225 30 = nI 64 → s27.1 172 6 = nI ps24 → s27.1 172 5 = nI x31 → E_MH_ball_2_L3 y21 i23 (E_MH_ball_2_L2 y21 n23) n24 jj21 s27 → F_MH_ball_2 pb s = F_MH_ball_2_L3 y21 i23 (F_MH_ball_2_L2 y21 n23) n24 jj21 s27 → lv_has ls 6 [(5, .int (nI jj21)), (4, .int (nI i23)), (2, .long y21), (0, .ref h0)] → okn g T s27 pl → va_P g.1 vcl ([] ++ pl) H → va_D A ([] ++ pl) → va_S A s0.heap H locs → W p l e ({ frames := 4, cells := 0, slots := 0, locals := 90 } : Room) s0 m args below meth c H locs 0 0 (MQ below (va_Qv (fun (u : (Sto) × va_W) => (u.1 = F_MH_ball_2 pb s ∧ frm (M_MH_ball_2) s u.1 ∧ True) ∧ okn g T u.1 u.2) (po g.1 vcl A (fun (u : (Sto) × va_W) => [] ++ u.2)) A) args s0 0 0 A) (F0 m 118 ls []) := by
                intro n24
                induction n24 with
                | zero =>
                  intro jj21 s27 ps24 pl ls H locs hm24 hi25 hi26 hF hf93 hf94 hf95 hf96 hf97 hf98 hf99 hf100 hf101 hf102 hE hR hl hO hP hD hS
                  refine lv_iload hx hb dMH_ball_118 (lv_at hl 0 rfl) ?_
                  refine lv_iload hx hb dMH_ball_120 (lv_at hl 1 rfl) ?_
                  refine mi_le (tgt := 137) hx hb dMH_ball_122 (by decide) (by omega) (by omega) (fun h25 => ?_) (fun h25 => absurd h25 (by have h9 : jj21 ≤ i23 := hE.1; omega))
                  replace hE := hE.2
                  refine lv_aload_n hx hb dMH_ball_137 rfl (lv_at hl 3 rfl) ?_
                  refine nw_get (C := "LatticeKeysModel$Hands") (TT := T_MH) (N := 31) hx hb hts (wg_ft i_MH) hown hK hO k_h0 (kn := 225) (ci := 12) (fl := [(3, 172), (3, 181), (3, 226), (3, 291), (3, 299), (3, 308), (3, 317), (3, 326), (3, 334), (3, 342), (3, 350), (3, 359), (3, 368), (3, 369), (3, 370), (3, 371), (3, 372), (3, 373), (3, 374), (3, 375), (3, 376), (3, 377), (3, 378), (0, 0), (0, 0), (0, 0), (0, 0), (0, 0), (0, 0), (0, 0), (0, 0)]) rfl hP rfl 12 (by decide) (hts _ (wg_t kw_1444)) (fun _ h9 => h9) (cd := (3, 368)) rfl dMH_ball_138 (fun v27 hv27 => ?_)
                  obtain ⟨r26, rfl, kr25⟩ := (show ∃ r : Nat, v27 = .ref r ∧ T r = some 368 from hv27)
                  refine lv_iload hx hb dMH_ball_141 (lv_at hl 1 rfl) ?_
                  refine lv_aload_n hx hb dMH_ball_143 rfl (lv_at hl 3 rfl) ?_
                  refine nw_get (C := "LatticeKeysModel$Hands") (TT := T_MH) (N := 31) hx hb hts (wg_ft i_MH) hown hK hO k_h0 (kn := 225) (ci := 12) (fl := [(3, 172), (3, 181), (3, 226), (3, 291), (3, 299), (3, 308), (3, 317), (3, 326), (3, 334), (3, 342), (3, 350), (3, 359), (3, 368), (3, 369), (3, 370), (3, 371), (3, 372), (3, 373), (3, 374), (3, 375), (3, 376), (3, 377), (3, 378), (0, 0), (0, 0), (0, 0), (0, 0), (0, 0), (0, 0), (0, 0), (0, 0)]) rfl hP rfl 12 (by decide) (hts _ (wg_t kw_1444)) (fun _ h9 => h9) (cd := (3, 368)) rfl dMH_ball_144 (fun v28 hv28 => ?_)
                  obtain ⟨r27, rfl, kr26⟩ := (show ∃ r : Nat, v28 = .ref r ∧ T r = some 368 from hv28)
                  refine lv_iload hx hb dMH_ball_147 (lv_at hl 0 rfl) ?_
                  refine nw_iald hx hb hK hO kr26 (k := 368) rfl hP (by omega) (by omega) dMH_ball_149 ?_
                  refine nw_iast hx hb hK hO hU kr25 (k := 368) rfl hP hD hS (by omega) (by omega) dMH_ball_150 (fun s28 pl H locs es21 hO hP hD hS => ?_)
                  replace hR := bnd_step hR es21
                  first | rw [bnd_eq, ← es21] at hE | replace hE := bndP_step hE es21
                  have hF := frm_sI hF es21 (by unfold M_MH_ball_2; omega)
                  have hf103 : s28.1 225 23 = nI 2 := fc_ne hf93 es21 (by omega)
                  have hf104 : s28.1 225 24 = nI 8 := fc_ne hf94 es21 (by omega)
                  have hf105 : s28.1 225 25 = nI 7 := fc_ne hf95 es21 (by omega)
                  have hf106 : s28.1 225 26 = nI 2 := fc_ne hf96 es21 (by omega)
                  have hf107 : s28.1 225 27 = nI 524288 := fc_ne hf97 es21 (by omega)
                  have hf108 : s28.1 225 28 = nI 261888 := fc_ne hf98 es21 (by omega)
                  have hf109 : s28.1 225 29 = nI 120 := fc_ne hf99 es21 (by omega)
                  have hf110 : s28.1 225 30 = nI 64 := fc_ne hf100 es21 (by omega)
                  have hf111 : s28.1 172 6 = nI ps24 := fc_ne hf101 es21 (by omega)
                  have hf112 : s28.1 172 5 = nI x31 := fc_ne hf102 es21 (by omega)
                  refine lv_aload_n hx hb dMH_ball_151 rfl (lv_at hl 3 rfl) ?_
                  refine nw_get (C := "LatticeKeysModel$Hands") (TT := T_MH) (N := 31) hx hb hts (wg_ft i_MH) hown hK hO k_h0 (kn := 225) (ci := 12) (fl := [(3, 172), (3, 181), (3, 226), (3, 291), (3, 299), (3, 308), (3, 317), (3, 326), (3, 334), (3, 342), (3, 350), (3, 359), (3, 368), (3, 369), (3, 370), (3, 371), (3, 372), (3, 373), (3, 374), (3, 375), (3, 376), (3, 377), (3, 378), (0, 0), (0, 0), (0, 0), (0, 0), (0, 0), (0, 0), (0, 0), (0, 0)]) rfl hP rfl 12 (by decide) (hts _ (wg_t kw_1444)) (fun _ h9 => h9) (cd := (3, 368)) rfl dMH_ball_152 (fun v29 hv29 => ?_)
                  obtain ⟨r28, rfl, kr27⟩ := (show ∃ r : Nat, v29 = .ref r ∧ T r = some 368 from hv29)
                  refine lv_iload hx hb dMH_ball_155 (lv_at hl 0 rfl) ?_
                  refine lv_lload_n hx hb dMH_ball_157 rfl (lv_at hl 2 rfl) ?_
                  refine lv_iload hx hb dMH_ball_158 (lv_at hl 1 rfl) ?_
                  refine va_gets hx hb (hEn.2.1 26 _ rfl).1 hS hown (hts _ (wg_t kw_1716)) (fun _ h9 => h9) dMH_ball_160 ?_
                  refine lv_aload_n hx hb dMH_ball_163 rfl (lv_at hl 3 rfl) ?_
                  refine nw_get (C := "LatticeKeysModel$Hands") (TT := T_MH) (N := 31) hx hb hts (wg_ft i_MH) hown hK hO k_h0 (kn := 225) (ci := 12) (fl := [(3, 172), (3, 181), (3, 226), (3, 291), (3, 299), (3, 308), (3, 317), (3, 326), (3, 334), (3, 342), (3, 350), (3, 359), (3, 368), (3, 369), (3, 370), (3, 371), (3, 372), (3, 373), (3, 374), (3, 375), (3, 376), (3, 377), (3, 378), (0, 0), (0, 0), (0, 0), (0, 0), (0, 0), (0, 0), (0, 0), (0, 0)]) rfl hP rfl 23 (by decide) (hts _ (wg_t kw_1455)) (fun _ h9 => h9) (cd := (0, 0)) rfl dMH_ball_164 (fun v30 hv30 => ?_)
                  obtain rfl := (show v30 = .int (s28.1 225 23) from hv30)
                  obtain ⟨z24, ez24, hz27, hz28⟩ := cl_of (b := 2147483648) hf103 (by omega) (by decide)
                  replace hR := bnd_step hR ez24
                  first | rw [bnd_eq, ← ez24] at hE | replace hE := bndP_step hE ez24
                  refine mi_as hz27 ?_
                  subst hz28
                  refine va_ti (v := .int (nI 60)) hx hb (hEn.2.1 26 _ rfl).2 hS (vp_in_nI (by decide) (by decide)) (by decide +kernel) dMH_ball_167 ?_
                  refine mi_iadd hx hb dMH_ball_168 ?_
                  refine lv_sipush (v := nI 256) hx hb dMH_ball_169 (by decide) ?_
                  refine lv_isub hx hb dMH_ball_172 ?_
                  refine lv_lushr hx hb dMH_ball_173 rfl ?_
                  refine lv_lconst (v := 1) hx hb dMH_ball_174 (by decide) ?_
                  refine lv_land hx hb dMH_ball_175 ?_
                  refine lv_lconst (v := 1) hx hb dMH_ball_176 (by decide) ?_
                  refine W.lcmp hx hb dMH_ball_177 ?_
                  refine lv_if_ne (tgt := 185) hx hb dMH_ball_178 (by decide) (fun h26 => ?_) (fun h26 => ?_)
                  · replace hR := hR.trans (if_neg h26)
                    first | rw [if_neg h26] at hE | rw [E_MH_ball_2_L0, if_neg h26] at hE | rw [E_MH_ball_2_L1, if_neg h26] at hE | rw [E_MH_ball_2_L2, if_neg h26] at hE | rw [E_MH_ball_2_L3, if_neg h26] at hE | rw [E_MH_ball_2_L4, if_neg h26] at hE | rw [E_MH_ball_2_L5, if_neg h26] at hE | rw [E_MH_ball_2_L6, if_neg h26] at hE | rw [E_MH_ball_2_L7, if_neg h26] at hE | rw [E_MH_ball_2_L8, if_neg h26] at hE | replace hE := iteP_neg h26 hE
                    refine lv_iconst (v := nI 1) hx hb dMH_ball_185 (by decide) ?_
                    refine nw_iast hx hb hK hO hU kr27 (k := 368) rfl hP hD hS (by omega) (by omega) dMH_ball_186 (fun s29 pl H locs es22 hO hP hD hS => ?_)
                    replace hR := bnd_step hR es22
                    first | rw [bnd_eq, ← es22] at hE | replace hE := bndP_step hE es22
                    have hF := frm_sI hF es22 (by unfold M_MH_ball_2; omega)
                    have hf113 : s29.1 225 23 = nI 2 := fc_ne hf103 es22 (by omega)
                    have hf114 : s29.1 225 24 = nI 8 := fc_ne hf104 es22 (by omega)
                    have hf115 : s29.1 225 25 = nI 7 := fc_ne hf105 es22 (by omega)
                    have hf116 : s29.1 225 26 = nI 2 := fc_ne hf106 es22 (by omega)
                    have hf117 : s29.1 225 27 = nI 524288 := fc_ne hf107 es22 (by omega)
                    have hf118 : s29.1 225 28 = nI 261888 := fc_ne hf108 es22 (by omega)
                    have hf119 : s29.1 225 29 = nI 120 := fc_ne hf109 es22 (by omega)
                    have hf120 : s29.1 225 30 = nI 64 := fc_ne hf110 es22 (by omega)
                    have hf121 : s29.1 172 6 = nI ps24 := fc_ne hf111 es22 (by omega)
                    have hf122 : s29.1 172 5 = nI x31 := fc_ne hf112 es22 (by omega)
                    refine mi_iinc (k := 1) (x := i23) (d := 1) (y := i23 + 1) (lv' := [(4, .int (nI (i23 + 1))), (5, .int (nI jj21)), (2, .long y21), (0, .ref h0)]) hx hb dMH_ball_187 hl rfl (by decide) rfl (by decide) rfl (fun ls hl => ?_)
                    refine lv_goto (tgt := 101) hx hb dMH_ball_190 (by decide) ?_
                    exact ih23 (i23 + 1) s29 ps24 pl ls H locs (by omega) (by omega) (by omega) hF hf113 hf114 hf115 hf116 hf117 hf118 hf119 hf120 hf121 (by have h9 := hf122; rw [show x31 = x28 by omega] at h9; exact h9) hE hR (lv_sub hl [0, 2, 3] rfl) hO hP hD hS
                  · replace hR := hR.trans (if_pos h26)
                    first | rw [if_pos h26] at hE | rw [E_MH_ball_2_L0, if_pos h26] at hE | rw [E_MH_ball_2_L1, if_pos h26] at hE | rw [E_MH_ball_2_L2, if_pos h26] at hE | rw [E_MH_ball_2_L3, if_pos h26] at hE | rw [E_MH_ball_2_L4, if_pos h26] at hE | rw [E_MH_ball_2_L5, if_pos h26] at hE | rw [E_MH_ball_2_L6, if_pos h26] at hE | rw [E_MH_ball_2_L7, if_pos h26] at hE | rw [E_MH_ball_2_L8, if_pos h26] at hE | replace hE := iteP_pos h26 hE
                    refine lv_iconst (v := (-1)) hx hb dMH_ball_181 (by decide) ?_
                    refine lv_goto (tgt := 186) hx hb dMH_ball_182 (by decide) ?_
                    refine nw_iast hx hb hK hO hU kr27 (k := 368) rfl hP hD hS (by omega) (by omega) dMH_ball_186 (fun s30 pl H locs es23 hO hP hD hS => ?_)
                    replace hR := bnd_step hR es23
                    first | rw [bnd_eq, ← es23] at hE | replace hE := bndP_step hE es23
                    have hF := frm_sI hF es23 (by unfold M_MH_ball_2; omega)
                    have hf123 : s30.1 225 23 = nI 2 := fc_ne hf103 es23 (by omega)
                    have hf124 : s30.1 225 24 = nI 8 := fc_ne hf104 es23 (by omega)
                    have hf125 : s30.1 225 25 = nI 7 := fc_ne hf105 es23 (by omega)
                    have hf126 : s30.1 225 26 = nI 2 := fc_ne hf106 es23 (by omega)
                    have hf127 : s30.1 225 27 = nI 524288 := fc_ne hf107 es23 (by omega)
                    have hf128 : s30.1 225 28 = nI 261888 := fc_ne hf108 es23 (by omega)
                    have hf129 : s30.1 225 29 = nI 120 := fc_ne hf109 es23 (by omega)
                    have hf130 : s30.1 225 30 = nI 64 := fc_ne hf110 es23 (by omega)
                    have hf131 : s30.1 172 6 = nI ps24 := fc_ne hf111 es23 (by omega)
                    have hf132 : s30.1 172 5 = nI x31 := fc_ne hf112 es23 (by omega)
                    refine mi_iinc (k := 1) (x := i23) (d := 1) (y := i23 + 1) (lv' := [(4, .int (nI (i23 + 1))), (5, .int (nI jj21)), (2, .long y21), (0, .ref h0)]) hx hb dMH_ball_187 hl rfl (by decide) rfl (by decide) rfl (fun ls hl => ?_)
                    refine lv_goto (tgt := 101) hx hb dMH_ball_190 (by decide) ?_
                    exact ih23 (i23 + 1) s30 ps24 pl ls H locs (by omega) (by omega) (by omega) hF hf123 hf124 hf125 hf126 hf127 hf128 hf129 hf130 hf131 (by have h9 := hf132; rw [show x31 = x28 by omega] at h9; exact h9) hE hR (lv_sub hl [0, 2, 3] rfl) hO hP hD hS
                | succ n24 ih24 =>
                  intro jj21 s27 ps24 pl ls H locs hm24 hi25 hi26 hF hf133 hf134 hf135 hf136 hf137 hf138 hf139 hf140 hf141 hf142 hE hR hl hO hP hD hS
                  refine lv_iload hx hb dMH_ball_118 (lv_at hl 0 rfl) ?_
                  refine lv_iload hx hb dMH_ball_120 (lv_at hl 1 rfl) ?_
                  refine mi_le (tgt := 137) hx hb dMH_ball_122 (by decide) (by omega) (by omega) (fun h27 => ?_) (fun h27 => ?_)
                  · replace hR := hR.trans (if_pos h27)
                    first | rw [if_pos h27] at hE | rw [E_MH_ball_2_L0, if_pos h27] at hE | rw [E_MH_ball_2_L1, if_pos h27] at hE | rw [E_MH_ball_2_L2, if_pos h27] at hE | rw [E_MH_ball_2_L3, if_pos h27] at hE | rw [E_MH_ball_2_L4, if_pos h27] at hE | rw [E_MH_ball_2_L5, if_pos h27] at hE | rw [E_MH_ball_2_L6, if_pos h27] at hE | rw [E_MH_ball_2_L7, if_pos h27] at hE | rw [E_MH_ball_2_L8, if_pos h27] at hE | replace hE := iteP_pos h27 hE
                    refine lv_aload_n hx hb dMH_ball_137 rfl (lv_at hl 3 rfl) ?_
                    refine nw_get (C := "LatticeKeysModel$Hands") (TT := T_MH) (N := 31) hx hb hts (wg_ft i_MH) hown hK hO k_h0 (kn := 225) (ci := 12) (fl := [(3, 172), (3, 181), (3, 226), (3, 291), (3, 299), (3, 308), (3, 317), (3, 326), (3, 334), (3, 342), (3, 350), (3, 359), (3, 368), (3, 369), (3, 370), (3, 371), (3, 372), (3, 373), (3, 374), (3, 375), (3, 376), (3, 377), (3, 378), (0, 0), (0, 0), (0, 0), (0, 0), (0, 0), (0, 0), (0, 0), (0, 0)]) rfl hP rfl 12 (by decide) (hts _ (wg_t kw_1444)) (fun _ h9 => h9) (cd := (3, 368)) rfl dMH_ball_138 (fun v31 hv31 => ?_)
                    obtain ⟨r29, rfl, kr28⟩ := (show ∃ r : Nat, v31 = .ref r ∧ T r = some 368 from hv31)
                    refine lv_iload hx hb dMH_ball_141 (lv_at hl 1 rfl) ?_
                    refine lv_aload_n hx hb dMH_ball_143 rfl (lv_at hl 3 rfl) ?_
                    refine nw_get (C := "LatticeKeysModel$Hands") (TT := T_MH) (N := 31) hx hb hts (wg_ft i_MH) hown hK hO k_h0 (kn := 225) (ci := 12) (fl := [(3, 172), (3, 181), (3, 226), (3, 291), (3, 299), (3, 308), (3, 317), (3, 326), (3, 334), (3, 342), (3, 350), (3, 359), (3, 368), (3, 369), (3, 370), (3, 371), (3, 372), (3, 373), (3, 374), (3, 375), (3, 376), (3, 377), (3, 378), (0, 0), (0, 0), (0, 0), (0, 0), (0, 0), (0, 0), (0, 0), (0, 0)]) rfl hP rfl 12 (by decide) (hts _ (wg_t kw_1444)) (fun _ h9 => h9) (cd := (3, 368)) rfl dMH_ball_144 (fun v32 hv32 => ?_)
                    obtain ⟨r30, rfl, kr29⟩ := (show ∃ r : Nat, v32 = .ref r ∧ T r = some 368 from hv32)
                    refine lv_iload hx hb dMH_ball_147 (lv_at hl 0 rfl) ?_
                    refine nw_iald hx hb hK hO kr29 (k := 368) rfl hP (by omega) (by omega) dMH_ball_149 ?_
                    refine nw_iast hx hb hK hO hU kr28 (k := 368) rfl hP hD hS (by omega) (by omega) dMH_ball_150 (fun s31 pl H locs es24 hO hP hD hS => ?_)
                    replace hR := bnd_step hR es24
                    first | rw [bnd_eq, ← es24] at hE | replace hE := bndP_step hE es24
                    have hF := frm_sI hF es24 (by unfold M_MH_ball_2; omega)
                    have hf143 : s31.1 225 23 = nI 2 := fc_ne hf133 es24 (by omega)
                    have hf144 : s31.1 225 24 = nI 8 := fc_ne hf134 es24 (by omega)
                    have hf145 : s31.1 225 25 = nI 7 := fc_ne hf135 es24 (by omega)
                    have hf146 : s31.1 225 26 = nI 2 := fc_ne hf136 es24 (by omega)
                    have hf147 : s31.1 225 27 = nI 524288 := fc_ne hf137 es24 (by omega)
                    have hf148 : s31.1 225 28 = nI 261888 := fc_ne hf138 es24 (by omega)
                    have hf149 : s31.1 225 29 = nI 120 := fc_ne hf139 es24 (by omega)
                    have hf150 : s31.1 225 30 = nI 64 := fc_ne hf140 es24 (by omega)
                    have hf151 : s31.1 172 6 = nI ps24 := fc_ne hf141 es24 (by omega)
                    have hf152 : s31.1 172 5 = nI x31 := fc_ne hf142 es24 (by omega)
                    refine lv_aload_n hx hb dMH_ball_151 rfl (lv_at hl 3 rfl) ?_
                    refine nw_get (C := "LatticeKeysModel$Hands") (TT := T_MH) (N := 31) hx hb hts (wg_ft i_MH) hown hK hO k_h0 (kn := 225) (ci := 12) (fl := [(3, 172), (3, 181), (3, 226), (3, 291), (3, 299), (3, 308), (3, 317), (3, 326), (3, 334), (3, 342), (3, 350), (3, 359), (3, 368), (3, 369), (3, 370), (3, 371), (3, 372), (3, 373), (3, 374), (3, 375), (3, 376), (3, 377), (3, 378), (0, 0), (0, 0), (0, 0), (0, 0), (0, 0), (0, 0), (0, 0), (0, 0)]) rfl hP rfl 12 (by decide) (hts _ (wg_t kw_1444)) (fun _ h9 => h9) (cd := (3, 368)) rfl dMH_ball_152 (fun v33 hv33 => ?_)
                    obtain ⟨r31, rfl, kr30⟩ := (show ∃ r : Nat, v33 = .ref r ∧ T r = some 368 from hv33)
                    refine lv_iload hx hb dMH_ball_155 (lv_at hl 0 rfl) ?_
                    refine lv_lload_n hx hb dMH_ball_157 rfl (lv_at hl 2 rfl) ?_
                    refine lv_iload hx hb dMH_ball_158 (lv_at hl 1 rfl) ?_
                    refine va_gets hx hb (hEn.2.1 26 _ rfl).1 hS hown (hts _ (wg_t kw_1716)) (fun _ h9 => h9) dMH_ball_160 ?_
                    refine lv_aload_n hx hb dMH_ball_163 rfl (lv_at hl 3 rfl) ?_
                    refine nw_get (C := "LatticeKeysModel$Hands") (TT := T_MH) (N := 31) hx hb hts (wg_ft i_MH) hown hK hO k_h0 (kn := 225) (ci := 12) (fl := [(3, 172), (3, 181), (3, 226), (3, 291), (3, 299), (3, 308), (3, 317), (3, 326), (3, 334), (3, 342), (3, 350), (3, 359), (3, 368), (3, 369), (3, 370), (3, 371), (3, 372), (3, 373), (3, 374), (3, 375), (3, 376), (3, 377), (3, 378), (0, 0), (0, 0), (0, 0), (0, 0), (0, 0), (0, 0), (0, 0), (0, 0)]) rfl hP rfl 23 (by decide) (hts _ (wg_t kw_1455)) (fun _ h9 => h9) (cd := (0, 0)) rfl dMH_ball_164 (fun v34 hv34 => ?_)
                    obtain rfl := (show v34 = .int (s31.1 225 23) from hv34)
                    obtain ⟨z25, ez25, hz29, hz30⟩ := cl_of (b := 2147483648) hf143 (by omega) (by decide)
                    replace hR := bnd_step hR ez25
                    first | rw [bnd_eq, ← ez25] at hE | replace hE := bndP_step hE ez25
                    refine mi_as hz29 ?_
                    subst hz30
                    refine va_ti (v := .int (nI 60)) hx hb (hEn.2.1 26 _ rfl).2 hS (vp_in_nI (by decide) (by decide)) (by decide +kernel) dMH_ball_167 ?_
                    refine mi_iadd hx hb dMH_ball_168 ?_
                    refine lv_sipush (v := nI 256) hx hb dMH_ball_169 (by decide) ?_
                    refine lv_isub hx hb dMH_ball_172 ?_
                    refine lv_lushr hx hb dMH_ball_173 rfl ?_
                    refine lv_lconst (v := 1) hx hb dMH_ball_174 (by decide) ?_
                    refine lv_land hx hb dMH_ball_175 ?_
                    refine lv_lconst (v := 1) hx hb dMH_ball_176 (by decide) ?_
                    refine W.lcmp hx hb dMH_ball_177 ?_
                    refine lv_if_ne (tgt := 185) hx hb dMH_ball_178 (by decide) (fun h28 => ?_) (fun h28 => ?_)
                    · replace hR := hR.trans (if_neg h28)
                      first | rw [if_neg h28] at hE | rw [E_MH_ball_2_L0, if_neg h28] at hE | rw [E_MH_ball_2_L1, if_neg h28] at hE | rw [E_MH_ball_2_L2, if_neg h28] at hE | rw [E_MH_ball_2_L3, if_neg h28] at hE | rw [E_MH_ball_2_L4, if_neg h28] at hE | rw [E_MH_ball_2_L5, if_neg h28] at hE | rw [E_MH_ball_2_L6, if_neg h28] at hE | rw [E_MH_ball_2_L7, if_neg h28] at hE | rw [E_MH_ball_2_L8, if_neg h28] at hE | replace hE := iteP_neg h28 hE
                      refine lv_iconst (v := nI 1) hx hb dMH_ball_185 (by decide) ?_
                      refine nw_iast hx hb hK hO hU kr30 (k := 368) rfl hP hD hS (by omega) (by omega) dMH_ball_186 (fun s32 pl H locs es25 hO hP hD hS => ?_)
                      replace hR := bnd_step hR es25
                      first | rw [bnd_eq, ← es25] at hE | replace hE := bndP_step hE es25
                      have hF := frm_sI hF es25 (by unfold M_MH_ball_2; omega)
                      have hf153 : s32.1 225 23 = nI 2 := fc_ne hf143 es25 (by omega)
                      have hf154 : s32.1 225 24 = nI 8 := fc_ne hf144 es25 (by omega)
                      have hf155 : s32.1 225 25 = nI 7 := fc_ne hf145 es25 (by omega)
                      have hf156 : s32.1 225 26 = nI 2 := fc_ne hf146 es25 (by omega)
                      have hf157 : s32.1 225 27 = nI 524288 := fc_ne hf147 es25 (by omega)
                      have hf158 : s32.1 225 28 = nI 261888 := fc_ne hf148 es25 (by omega)
                      have hf159 : s32.1 225 29 = nI 120 := fc_ne hf149 es25 (by omega)
                      have hf160 : s32.1 225 30 = nI 64 := fc_ne hf150 es25 (by omega)
                      have hf161 : s32.1 172 6 = nI ps24 := fc_ne hf151 es25 (by omega)
                      have hf162 : s32.1 172 5 = nI x31 := fc_ne hf152 es25 (by omega)
                      refine mi_iinc (k := 1) (x := i23) (d := 1) (y := i23 + 1) (lv' := [(4, .int (nI (i23 + 1))), (5, .int (nI jj21)), (2, .long y21), (0, .ref h0)]) hx hb dMH_ball_187 hl rfl (by decide) rfl (by decide) rfl (fun ls hl => ?_)
                      refine lv_goto (tgt := 101) hx hb dMH_ball_190 (by decide) ?_
                      exact ih23 (i23 + 1) s32 ps24 pl ls H locs (by omega) (by omega) (by omega) hF hf153 hf154 hf155 hf156 hf157 hf158 hf159 hf160 hf161 (by have h9 := hf162; rw [show x31 = x28 by omega] at h9; exact h9) hE hR (lv_sub hl [0, 2, 3] rfl) hO hP hD hS
                    · replace hR := hR.trans (if_pos h28)
                      first | rw [if_pos h28] at hE | rw [E_MH_ball_2_L0, if_pos h28] at hE | rw [E_MH_ball_2_L1, if_pos h28] at hE | rw [E_MH_ball_2_L2, if_pos h28] at hE | rw [E_MH_ball_2_L3, if_pos h28] at hE | rw [E_MH_ball_2_L4, if_pos h28] at hE | rw [E_MH_ball_2_L5, if_pos h28] at hE | rw [E_MH_ball_2_L6, if_pos h28] at hE | rw [E_MH_ball_2_L7, if_pos h28] at hE | rw [E_MH_ball_2_L8, if_pos h28] at hE | replace hE := iteP_pos h28 hE
                      refine lv_iconst (v := (-1)) hx hb dMH_ball_181 (by decide) ?_
                      refine lv_goto (tgt := 186) hx hb dMH_ball_182 (by decide) ?_
                      refine nw_iast hx hb hK hO hU kr30 (k := 368) rfl hP hD hS (by omega) (by omega) dMH_ball_186 (fun s33 pl H locs es26 hO hP hD hS => ?_)
                      replace hR := bnd_step hR es26
                      first | rw [bnd_eq, ← es26] at hE | replace hE := bndP_step hE es26
                      have hF := frm_sI hF es26 (by unfold M_MH_ball_2; omega)
                      have hf163 : s33.1 225 23 = nI 2 := fc_ne hf143 es26 (by omega)
                      have hf164 : s33.1 225 24 = nI 8 := fc_ne hf144 es26 (by omega)
                      have hf165 : s33.1 225 25 = nI 7 := fc_ne hf145 es26 (by omega)
                      have hf166 : s33.1 225 26 = nI 2 := fc_ne hf146 es26 (by omega)
                      have hf167 : s33.1 225 27 = nI 524288 := fc_ne hf147 es26 (by omega)
                      have hf168 : s33.1 225 28 = nI 261888 := fc_ne hf148 es26 (by omega)
                      have hf169 : s33.1 225 29 = nI 120 := fc_ne hf149 es26 (by omega)
                      have hf170 : s33.1 225 30 = nI 64 := fc_ne hf150 es26 (by omega)
                      have hf171 : s33.1 172 6 = nI ps24 := fc_ne hf151 es26 (by omega)
                      have hf172 : s33.1 172 5 = nI x31 := fc_ne hf152 es26 (by omega)
                      refine mi_iinc (k := 1) (x := i23) (d := 1) (y := i23 + 1) (lv' := [(4, .int (nI (i23 + 1))), (5, .int (nI jj21)), (2, .long y21), (0, .ref h0)]) hx hb dMH_ball_187 hl rfl (by decide) rfl (by decide) rfl (fun ls hl => ?_)
                      refine lv_goto (tgt := 101) hx hb dMH_ball_190 (by decide) ?_
                      exact ih23 (i23 + 1) s33 ps24 pl ls H locs (by omega) (by omega) (by omega) hF hf163 hf164 hf165 hf166 hf167 hf168 hf169 hf170 hf171 (by have h9 := hf172; rw [show x31 = x28 by omega] at h9; exact h9) hE hR (lv_sub hl [0, 2, 3] rfl) hO hP hD hS
                  · replace hR := hR.trans (if_neg (Nat.not_le.mpr h27))
                    first | rw [if_neg (Nat.not_le.mpr h27)] at hE | rw [E_MH_ball_2_L0, if_neg (Nat.not_le.mpr h27)] at hE | rw [E_MH_ball_2_L1, if_neg (Nat.not_le.mpr h27)] at hE | rw [E_MH_ball_2_L2, if_neg (Nat.not_le.mpr h27)] at hE | rw [E_MH_ball_2_L3, if_neg (Nat.not_le.mpr h27)] at hE | rw [E_MH_ball_2_L4, if_neg (Nat.not_le.mpr h27)] at hE | rw [E_MH_ball_2_L5, if_neg (Nat.not_le.mpr h27)] at hE | rw [E_MH_ball_2_L6, if_neg (Nat.not_le.mpr h27)] at hE | rw [E_MH_ball_2_L7, if_neg (Nat.not_le.mpr h27)] at hE | rw [E_MH_ball_2_L8, if_neg (Nat.not_le.mpr h27)] at hE | replace hE := iteP_neg (Nat.not_le.mpr h27) hE
                    refine lv_aload_n hx hb dMH_ball_125 rfl (lv_at hl 3 rfl) ?_
                    refine nw_get (C := "LatticeKeysModel$Hands") (TT := T_MH) (N := 31) hx hb hts (wg_ft i_MH) hown hK hO k_h0 (kn := 225) (ci := 12) (fl := [(3, 172), (3, 181), (3, 226), (3, 291), (3, 299), (3, 308), (3, 317), (3, 326), (3, 334), (3, 342), (3, 350), (3, 359), (3, 368), (3, 369), (3, 370), (3, 371), (3, 372), (3, 373), (3, 374), (3, 375), (3, 376), (3, 377), (3, 378), (0, 0), (0, 0), (0, 0), (0, 0), (0, 0), (0, 0), (0, 0), (0, 0)]) rfl hP rfl 0 (by decide) (hts _ (wg_t kw_1432)) (fun _ h9 => h9) (cd := (3, 172)) rfl dMH_ball_126 (fun v35 hv35 => ?_)
                    obtain ⟨r32, rfl, kr31⟩ := (show ∃ r : Nat, v35 = .ref r ∧ T r = some 172 from hv35)
                    refine mp_i (cx := []) (wr := []) hP hD hS hA [] [] rfl rfl rfl (by decide) (va_runV (As := []) (rest := []) F (N_MS_next l g _ T s27 pl hO hU r32 ps24 x31 kr31 hf141 hf142 (by omega) (by omega)) (cwV 0 hts (wg_app (wg_c kw_1728 (wg_c kw_1642 (wg_c kw_1643 (wg_c kw_10 wg_n)))) kw_1644) rfl rfl rfl (by decide +kernel) ⟨by decide, by decide⟩) (pn_W "LatticeKeysModel$Sponge" (en_ok g) (ci := 9) (kn := 172) (fl := [(3, 173), (3, 174), (3, 175), (3, 176), (3, 177), (0, 0), (0, 0), (0, 0)]) hK hO kr31 rfl hP hD hS hA hEn [] rfl rfl rfl) rfl rfl hl.1 rfl (lv_room (Nat.le_of_ble_eq_true rfl)) dMH_ball_129 ⟨by omega, by omega⟩) (fun r33 u25 H locs hu25 hP hD hS => ?_)
                    obtain ⟨q22, pl⟩ := u25
                    obtain ⟨⟨eq25, rfl, hFc25, ⟨x35, hx_35, hb_35⟩, ⟨x33, hx_33, hb_33⟩, ⟨x34, hx_34, hb_34⟩, -⟩, hO⟩ := hu25
                    have hO : okn g T q22.2 pl := hO
                    have hP : va_P g.1 vcl ([] ++ pl) _ := hP
                    have hD : va_D _ ([] ++ pl) := hD
                    have hFc25 : frm (M_MS_next) s27 q22.2 := hFc25
                    have hb_33 : x33 ≤ x31 := hb_33
                    have hb_34 : x34 = x31 := hb_34
                    have hb_35 : x35 < 256 := hb_35
                    replace hR := bnd_step hR eq25
                    first | rw [bnd_eq, ← eq25] at hE | replace hE := bndP_step hE eq25
                    have hF := frm_tr hF hFc25 (fun k hk => by unfold M_MS_next at hk; unfold M_MH_ball_2; omega)
                    have hf173 : q22.2.1 225 23 = nI 2 := fc_F hf133 hFc25 (by unfold M_MS_next; omega)
                    have hf174 : q22.2.1 225 24 = nI 8 := fc_F hf134 hFc25 (by unfold M_MS_next; omega)
                    have hf175 : q22.2.1 225 25 = nI 7 := fc_F hf135 hFc25 (by unfold M_MS_next; omega)
                    have hf176 : q22.2.1 225 26 = nI 2 := fc_F hf136 hFc25 (by unfold M_MS_next; omega)
                    have hf177 : q22.2.1 225 27 = nI 524288 := fc_F hf137 hFc25 (by unfold M_MS_next; omega)
                    have hf178 : q22.2.1 225 28 = nI 261888 := fc_F hf138 hFc25 (by unfold M_MS_next; omega)
                    have hf179 : q22.2.1 225 29 = nI 120 := fc_F hf139 hFc25 (by unfold M_MS_next; omega)
                    have hf180 : q22.2.1 225 30 = nI 64 := fc_F hf140 hFc25 (by unfold M_MS_next; omega)
                    obtain ⟨z26, ez26, hz31, hz32⟩ := cl_of (b := 2147483648) hx_35 (by omega) (by decide)
                    replace hR := bnd_step hR ez26
                    first | rw [bnd_eq, ← ez26] at hE | replace hE := bndP_step hE ez26
                    refine mi_as hz31 ?_
                    refine W.widen (k := 0) (n := 0) (by omega) (by omega) ?_
                    refine lv_istore (lv' := [(5, .int (nI z26)), (4, .int (nI i23)), (2, .long y21), (0, .ref h0)]) hx hb dMH_ball_132 hl (by decide) rfl (fun ls hl => ?_)
                    refine lv_goto (tgt := 118) hx hb dMH_ball_134 (by decide) ?_
                    exact ih24 z26 q22.2 x33 pl ls H locs (by omega) (by omega) (by omega) hF hf173 hf174 hf175 hf176 hf177 hf178 hf179 hf180 hx_33 (by have h9 := hx_34; rw [show x34 = x31 by omega] at h9; exact h9) hE hR (lv_sub hl [0, 1, 2, 3] rfl) hO hP hD hS
              exact lp24 fuelM z23 q21.2 x30 pl ls _ _ (by omega) (by omega) (by omega) hF hf85 hf86 hf87 hf88 hf89 hf90 hf91 hf92 hx_30 hx_31 hE hR (lv_sub hl [0, 1, 2, 3] rfl) hO hP hD hS
          exact lp23 (256 - 196) 196 s25 ps22 pl ls _ _ (by omega) (by omega) (by omega) hF hf55 hf56 hf57 hf58 hf59 hf60 hf61 hf62 hf63 hf64 hE hR (lv_sub hl [0, 1, 2] rfl) hO hP hD hS
        | succ n22 ih22 =>
          intro i22 s25 ps22 pl ls H locs hm22 hi22 hF hf181 hf182 hf183 hf184 hf185 hf186 hf187 hf188 hf189 hf190 hE hR hl hO hP hD hS
          refine lv_iload hx hb dMH_ball_65 (lv_at hl 0 rfl) ?_
          refine lv_sipush (v := nI 256) hx hb dMH_ball_67 (by decide) ?_
          refine mi_ge (tgt := 87) hx hb dMH_ball_70 (by decide) (by omega) (by omega) (fun h29 => absurd h29 (by omega)) (fun h29 => ?_)
          refine lv_aload_n hx hb dMH_ball_73 rfl (lv_at hl 2 rfl) ?_
          refine nw_get (C := "LatticeKeysModel$Hands") (TT := T_MH) (N := 31) hx hb hts (wg_ft i_MH) hown hK hO k_h0 (kn := 225) (ci := 12) (fl := [(3, 172), (3, 181), (3, 226), (3, 291), (3, 299), (3, 308), (3, 317), (3, 326), (3, 334), (3, 342), (3, 350), (3, 359), (3, 368), (3, 369), (3, 370), (3, 371), (3, 372), (3, 373), (3, 374), (3, 375), (3, 376), (3, 377), (3, 378), (0, 0), (0, 0), (0, 0), (0, 0), (0, 0), (0, 0), (0, 0), (0, 0)]) rfl hP rfl 12 (by decide) (hts _ (wg_t kw_1444)) (fun _ h9 => h9) (cd := (3, 368)) rfl dMH_ball_74 (fun v36 hv36 => ?_)
          obtain ⟨r34, rfl, kr32⟩ := (show ∃ r : Nat, v36 = .ref r ∧ T r = some 368 from hv36)
          refine lv_iload hx hb dMH_ball_77 (lv_at hl 0 rfl) ?_
          refine lv_iconst (v := nI 0) hx hb dMH_ball_79 (by decide) ?_
          refine nw_iast hx hb hK hO hU kr32 (k := 368) rfl hP hD hS (by omega) (by omega) dMH_ball_80 (fun s34 pl H locs es27 hO hP hD hS => ?_)
          replace hR := bnd_step hR es27
          first | rw [bnd_eq, ← es27] at hE | replace hE := bndP_step hE es27
          have hF := frm_sI hF es27 (by unfold M_MH_ball_2; omega)
          have hf191 : s34.1 225 23 = nI 2 := fc_ne hf181 es27 (by omega)
          have hf192 : s34.1 225 24 = nI 8 := fc_ne hf182 es27 (by omega)
          have hf193 : s34.1 225 25 = nI 7 := fc_ne hf183 es27 (by omega)
          have hf194 : s34.1 225 26 = nI 2 := fc_ne hf184 es27 (by omega)
          have hf195 : s34.1 225 27 = nI 524288 := fc_ne hf185 es27 (by omega)
          have hf196 : s34.1 225 28 = nI 261888 := fc_ne hf186 es27 (by omega)
          have hf197 : s34.1 225 29 = nI 120 := fc_ne hf187 es27 (by omega)
          have hf198 : s34.1 225 30 = nI 64 := fc_ne hf188 es27 (by omega)
          have hf199 : s34.1 172 6 = nI ps22 := fc_ne hf189 es27 (by omega)
          have hf200 : s34.1 172 5 = nI x28 := fc_ne hf190 es27 (by omega)
          refine mi_iinc (k := 0) (x := i22) (d := 1) (y := i22 + 1) (lv' := [(4, .int (nI (i22 + 1))), (2, .long y21), (0, .ref h0)]) hx hb dMH_ball_81 hl rfl (by decide) rfl (by decide) rfl (fun ls hl => ?_)
          refine lv_goto (tgt := 65) hx hb dMH_ball_84 (by decide) ?_
          exact ih22 (i22 + 1) s34 ps22 pl ls H locs (by omega) (by omega) hF hf191 hf192 hf193 hf194 hf195 hf196 hf197 hf198 hf199 hf200 hE hR (lv_sub hl [0, 1, 2] rfl) hO hP hD hS
      exact lp22 256 0 s24 ps21 pl ls _ _ (by omega) (by omega) hF hf45 hf46 hf47 hf48 hf49 hf50 hf51 hf52 hf53 hf54 hE hR (lv_sub hl [0, 1, 2] rfl) hO hP hD hS
    | succ n21 ih21 =>
      intro i21 y21 s24 ps21 pl ls H locs hm21 hi21 hF hf201 hf202 hf203 hf204 hf205 hf206 hf207 hf208 hf209 hf210 hE hR hl hO hP hD hS
      refine lv_iload hx hb dMH_ball_32 (lv_at hl 0 rfl) ?_
      refine lv_bipush (v := nI 8) hx hb dMH_ball_34 (by decide) ?_
      refine mi_ge (tgt := 62) hx hb dMH_ball_36 (by decide) (by omega) (by omega) (fun h30 => absurd h30 (by omega)) (fun h30 => ?_)
      refine lv_lload_n hx hb dMH_ball_39 rfl (lv_at hl 1 rfl) ?_
      refine lv_aload_n hx hb dMH_ball_40 rfl (lv_at hl 2 rfl) ?_
      refine nw_get (C := "LatticeKeysModel$Hands") (TT := T_MH) (N := 31) hx hb hts (wg_ft i_MH) hown hK hO k_h0 (kn := 225) (ci := 12) (fl := [(3, 172), (3, 181), (3, 226), (3, 291), (3, 299), (3, 308), (3, 317), (3, 326), (3, 334), (3, 342), (3, 350), (3, 359), (3, 368), (3, 369), (3, 370), (3, 371), (3, 372), (3, 373), (3, 374), (3, 375), (3, 376), (3, 377), (3, 378), (0, 0), (0, 0), (0, 0), (0, 0), (0, 0), (0, 0), (0, 0), (0, 0)]) rfl hP rfl 0 (by decide) (hts _ (wg_t kw_1432)) (fun _ h9 => h9) (cd := (3, 172)) rfl dMH_ball_41 (fun v37 hv37 => ?_)
      obtain ⟨r35, rfl, kr33⟩ := (show ∃ r : Nat, v37 = .ref r ∧ T r = some 172 from hv37)
      refine mp_i (cx := []) (wr := []) hP hD hS hA [] [] rfl rfl rfl (by decide) (va_runV (As := []) (rest := [.long y21]) F (N_MS_next l g _ T s24 pl hO hU r35 ps21 x28 kr33 hf209 hf210 (by omega) (by omega)) (cwV 0 hts (wg_app (wg_c kw_1728 (wg_c kw_1642 (wg_c kw_1643 (wg_c kw_10 wg_n)))) kw_1644) rfl rfl rfl (by decide +kernel) ⟨by decide, by decide⟩) (pn_W "LatticeKeysModel$Sponge" (en_ok g) (ci := 9) (kn := 172) (fl := [(3, 173), (3, 174), (3, 175), (3, 176), (3, 177), (0, 0), (0, 0), (0, 0)]) hK hO kr33 rfl hP hD hS hA hEn [] rfl rfl rfl) rfl rfl hl.1 rfl (lv_room (Nat.le_of_ble_eq_true rfl)) dMH_ball_44 ⟨by omega, by omega⟩) (fun r36 u26 H locs hu26 hP hD hS => ?_)
      obtain ⟨q23, pl⟩ := u26
      obtain ⟨⟨eq26, rfl, hFc26, ⟨x38, hx_38, hb_38⟩, ⟨x36, hx_36, hb_36⟩, ⟨x37, hx_37, hb_37⟩, -⟩, hO⟩ := hu26
      have hO : okn g T q23.2 pl := hO
      have hP : va_P g.1 vcl ([] ++ pl) _ := hP
      have hD : va_D _ ([] ++ pl) := hD
      have hFc26 : frm (M_MS_next) s24 q23.2 := hFc26
      have hb_36 : x36 ≤ x28 := hb_36
      have hb_37 : x37 = x28 := hb_37
      have hb_38 : x38 < 256 := hb_38
      replace hR := bnd_step hR eq26
      first | rw [bnd_eq, ← eq26] at hE | replace hE := bndP_step hE eq26
      have hF := frm_tr hF hFc26 (fun k hk => by unfold M_MS_next at hk; unfold M_MH_ball_2; omega)
      have hf211 : q23.2.1 225 23 = nI 2 := fc_F hf201 hFc26 (by unfold M_MS_next; omega)
      have hf212 : q23.2.1 225 24 = nI 8 := fc_F hf202 hFc26 (by unfold M_MS_next; omega)
      have hf213 : q23.2.1 225 25 = nI 7 := fc_F hf203 hFc26 (by unfold M_MS_next; omega)
      have hf214 : q23.2.1 225 26 = nI 2 := fc_F hf204 hFc26 (by unfold M_MS_next; omega)
      have hf215 : q23.2.1 225 27 = nI 524288 := fc_F hf205 hFc26 (by unfold M_MS_next; omega)
      have hf216 : q23.2.1 225 28 = nI 261888 := fc_F hf206 hFc26 (by unfold M_MS_next; omega)
      have hf217 : q23.2.1 225 29 = nI 120 := fc_F hf207 hFc26 (by unfold M_MS_next; omega)
      have hf218 : q23.2.1 225 30 = nI 64 := fc_F hf208 hFc26 (by unfold M_MS_next; omega)
      obtain ⟨z27, ez27, hz33, hz34⟩ := cl_of (b := 2147483648) hx_38 (by omega) (by decide)
      replace hR := bnd_step hR ez27
      first | rw [bnd_eq, ← ez27] at hE | replace hE := bndP_step hE ez27
      refine mi_as hz33 ?_
      refine W.widen (k := 0) (n := 0) (by omega) (by omega) ?_
      refine lv_i2l hx hb dMH_ball_47 rfl ?_
      refine lv_bipush (v := nI 8) hx hb dMH_ball_48 (by decide) ?_
      refine lv_iload hx hb dMH_ball_50 (lv_at hl 0 rfl) ?_
      refine mi_imul hx hb dMH_ball_52 ?_
      refine lv_lshl hx hb dMH_ball_53 rfl ?_
      refine lv_lor hx hb dMH_ball_54 ?_
      refine ml_eqv (fun y22 ez28 => ?_)
      replace hR := bnd_step hR ez28
      first | rw [bnd_eq, ← ez28] at hE | replace hE := bndP_step hE ez28
      refine lv_lstore_n (lv' := [(2, .long y22), (4, .int (nI i21)), (0, .ref h0)]) hx hb dMH_ball_55 rfl hl (by decide) rfl (fun ls hl => ?_)
      refine mi_iinc (k := 1) (x := i21) (d := 1) (y := i21 + 1) (lv' := [(4, .int (nI (i21 + 1))), (2, .long y22), (0, .ref h0)]) hx hb dMH_ball_56 hl rfl (by decide) rfl (by decide) rfl (fun ls hl => ?_)
      refine lv_goto (tgt := 32) hx hb dMH_ball_59 (by decide) ?_
      exact ih21 (i21 + 1) y22 q23.2 x36 pl ls H locs (by omega) (by omega) hF hf211 hf212 hf213 hf214 hf215 hf216 hf217 hf218 hx_36 (by have h9 := hx_37; rw [show x37 = x28 by omega] at h9; exact h9) hE hR (lv_sub hl [0, 1, 2] rfl) hO hP hD hS
  exact lp21 8 0 0 s23 x27 pl ls _ _ (by omega) (by omega) hF hf37 hf38 hf39 hf40 hf41 hf42 hf43 hf44 hx_27 hx_28 hE hR (lv_sub hl [0, 1, 2] rfl) hO hP hD hS
